/-! ===== the model: reading a text ===== -/
def am_gj (Λ : am_L) (P : Option Value → am_I → am_J → Prop) : am_PT := fun w Λ' I' J' => Λ' = Λ ∧ P w I' J'
section KGJ
variable {G : am_G} {X : am_X} {R : Room} {own : String} {cc : ByteArray} {nL : Nat} {ret : Option FieldType} {tb : List ExceptionTableEntry} {Q : State → Prop}
variable {Λ : am_L} {I : am_I} {J : am_J} {k n pc : Nat} {ls : List (Nat × Value)} {st : List Value} {Post : am_PT} {PX : am_XT} {mc ms : Nat} {ty : FieldType}
theorem k_callVj (C : am_Cx G X own cc nL ret tb Q) {y : MethodName} {b' : ByteArray} {nL' nn : Nat} {ret' : Option FieldType} {R' : Room} {As rest : List Value} {idx : Nat} {P : Option Value → am_I → am_J → Prop} {a ci : Nat} {q : vw_C} (hS0 : am_SV own idx y q.1 nn) (hcode : Cond.code y b' nL' ret' ∈ am_tbl) (hs : Λ.1 a = (1, ci)) (hq : vwCl[ci]? = some q) (hM : am_Ct G y b' nL' ret' R' (.ref a :: As) Λ I J (am_gj Λ P) am_never) (hnn : As.length = nn) (hst : st = As.reverse ++ .ref a :: rest) (hW : (rest.map fun v => v.category).sum ≤ 8) (hfr : R'.frames + 1 ≤ R.frames ∧ 8 + (nL' + 11) + R'.locals ≤ R.locals) (hce : k ≤ R.cells ∧ n ≤ R.slots) (h0 : R'.cells = 0 ∧ R'.slots = 0) (hd : decode cc pc = .ok (.invokevirtual idx, 3)) (kk : ∀ (v : Option Value) (I' : am_I) (J' : am_J), P v I' J' → am_K G X R nL Λ I' J' (k) (n) (pc + 3) (ls) (v.toList ++ rest)) : am_K G X R nL Λ I J (k) (n) (pc) (ls) (st) := k_callV C hS0 hcode hs hq hM hnn hst hW hfr (by rw [h0.1, h0.2]; exact hce) hd (fun w Λ' I' J' hp => by obtain ⟨rfl, hp⟩ := hp; rw [h0.1, h0.2]; exact kk w I' J' hp) (fun _ _ _ _ h => h.elim)
end KGJ
theorem md_cmp0 {x y : Int64} : lg_cmp x y = 0 ↔ x = y := by
  unfold lg_cmp
  by_cases h : x > y
  · rw [if_pos h]
    exact ⟨fun z => absurd z (by decide), fun z => by subst z; exact absurd h Int64.lt_irrefl⟩
  · rw [if_neg h]
    by_cases e : x = y
    · rw [if_pos e]; exact ⟨fun _ => e, fun _ => rfl⟩
    · rw [if_neg e]; exact ⟨fun z => absurd z (by decide), fun z => absurd z e⟩
def md_h (g : Nat → Nat) : Nat → Nat
  | 0 => 0
  | k + 1 => 27 * md_h g k + g k
theorem md_h_inj {g g' : Nat → Nat} : ∀ (m l : Nat), (∀ k : Nat, k < m → 1 ≤ g k ∧ g k ≤ 26) → (∀ k : Nat, k < l → 1 ≤ g' k ∧ g' k ≤ 26) → md_h g m = md_h g' l → m = l ∧ ∀ k : Nat, k < m → g k = g' k := by
  intro m
  induction m with
  | zero =>
    intro l _ h2 e
    cases l with
    | zero => exact ⟨rfl, fun k hk => absurd hk (Nat.not_lt_zero k)⟩
    | succ l =>
      have := h2 l (by omega)
      simp only [md_h] at e
      omega
  | succ m ih =>
    intro l h1 h2 e
    cases l with
    | zero =>
      have := h1 m (by omega)
      simp only [md_h] at e
      omega
    | succ l =>
      have a1 := h1 m (by omega)
      have a2 := h2 l (by omega)
      simp only [md_h] at e
      obtain ⟨e1, e2⟩ := ih l (fun k hk => h1 k (by omega)) (fun k hk => h2 k (by omega)) (by omega)
      subst e1
      refine ⟨rfl, fun k hk => ?_⟩
      by_cases q : k = m
      · subst q; omega
      · exact e2 k (by omega)
theorem md_h_b {g : Nat → Nat} : ∀ m : Nat, (∀ k : Nat, k < m → g k ≤ 26) → md_h g m < 27 ^ m := by
  intro m
  induction m with
  | zero => intro _; exact Nat.one_pos
  | succ m ih =>
    intro h
    have a := ih (fun k hk => h k (by omega))
    have b := h m (by omega)
    simp only [md_h, Nat.pow_succ]
    omega
def md_lt (tb : Nat → Nat) (st : Nat) : Nat → Nat := fun k => tb (st + k) - 96
def MTok (I : am_I) (J : am_J) (y : Nat) (tb : Nat → Nat) (n : Nat) (t : sp_T) : Prop := I y 14 = nI t.1 ∧ I y 13 = nI t.2.1 ∧ I y 12 = nI t.2.2.1 ∧ I y 15 = nI t.2.2.2 ∧ (t.1 = 1 → J y 16 = lN (md_h (md_lt tb t.2.1) (min 8 (t.2.2.1 - t.2.1))) ∧ ∀ j : Nat, t.2.1 ≤ j → j < t.2.2.1 → 97 ≤ tb j ∧ tb j ≤ 122) ∧ t.1 ≤ 4 ∧ t.2.1 ≤ t.2.2.1 ∧ t.2.2.1 ≤ n ∧ t.2.2.2 ≤ 999
def MPf (y : Nat) (I I' : am_I) : Prop := (∀ k : Nat, (k < 9 ∨ k = 10 ∨ k = 11 ∨ k = 16 ∨ 18 ≤ k) → I' y k = I y k) ∧ ∀ b : Nat, b ≠ y → b ≠ y + 2 → I' b = I b
theorem MPf.rf {y : Nat} {I : am_I} : MPf y I I := ⟨fun _ _ => rfl, fun _ _ _ => rfl⟩
theorem MPf.tr {y : Nat} {I I1 I2 : am_I} (h : MPf y I I1) (h2 : MPf y I1 I2) : MPf y I I2 := ⟨fun k hk => (h2.1 k hk).trans (h.1 k hk), fun b h3 h4 => (h2.2 b h3 h4).trans (h.2 b h3 h4)⟩
theorem MPf.up {y k : Nat} {x : Int32} {I I1 : am_I} (h : MPf y I I1) (hk : k = 9 ∨ k = 12 ∨ k = 13 ∨ k = 14 ∨ k = 15 ∨ k = 17) : MPf y I (am_up I1 y k x) := ⟨fun j hj => (am_up_n2 (by omega)).trans (h.1 j hj), fun b h3 h4 => (am_up_ne h3).trans (h.2 b h3 h4)⟩
theorem MPf.txt {y n : Nat} {tb : Nat → Nat} {I I1 : am_I} (h : MPf y I I1) (ht : MTxt I y tb n) : MTxt I1 y tb n := by
  unfold MTxt
  rw [h.1 8 (by omega), h.2 (y + 7) (by omega) (by omega)]
  exact ht
def JFr (y : Nat) (J J' : am_J) : Prop := ∀ b : Nat, b ≠ y → J' b = J b
theorem JFr.rf {y : Nat} {J : am_J} : JFr y J J := fun _ _ => rfl
theorem JFr.tr {y : Nat} {J J1 J2 : am_J} (h : JFr y J J1) (h2 : JFr y J1 J2) : JFr y J J2 := fun b hb => (h2 b hb).trans (h b hb)
theorem am_ul_eq {J : am_J} {a k : Nat} {x : Int64} : am_ul J a k x a k = x := by simp [am_ul]
/-- frames of the reader of tokens: fields 12 to 15 and the long -/
def TFr (y : Nat) (I I' : am_I) : Prop := ∀ b K : Nat, ¬ (b = y ∧ 12 ≤ K ∧ K ≤ 15) → I' b K = I b K
theorem TFr.mp {y : Nat} {I I1 : am_I} (h : TFr y I I1) : MPf y I I1 := ⟨fun k hk => h y k (by omega), fun b h3 _ => by funext K; exact h b K (by omega)⟩
set_option maxHeartbeats 4000000 in
set_option maxRecDepth 100000 in
theorem ct_X6_isSmall {G : am_G} {Λ : am_L} {I : am_I} {J : am_J} {y n : Nat} {tb : Nat → Nat} {k : Nat}  (hx : ModLay Λ y) (ht : MTxt I y tb n) (hk : k ≤ 700) : am_Ct G yX6_isSmall cX6_isSmall 2 (some .boolean) { frames := 0, cells := 0, slots := 0, locals := 0 } [.ref y, .int (nI k)] Λ I J (am_pure (.int (am_b (k < n ∧ sp_isA (tb k) = true))) Λ I J) am_never := by
  refine am_ct_of (own := RX6) rfl (by decide) (Nat.le_of_ble_eq_true rfl) (fun X C => ?_)
  change am_K G X { frames := 0, cells := 0, slots := 0, locals := 0 } 2 Λ I J 0 0 0 [(0, .ref y), (1, .int (nI k))] []
  obtain ⟨t1, t2, t3⟩ := ht
  refine k_iload_n C (f := 1) (i := 1) (p := 1) rfl rfl dX6_isSmall_0 ?_
  refine k_aload_n C (f := 0) (i := 0) (p := 0) rfl rfl dX6_isSmall_1 ?_
  refine k_getI C f_X6_144 (L6_s (by assumption)) (fun _ _ _ => rfl) (t1) dX6_isSmall_2 ?_
  first
  | refine k_icmpN_ge C (tgt := 34) (by omega) (by omega) (by decide) dX6_isSmall_5 (fun hc5 => ?_) (fun hc5 => ?_)
  | refine k_icmp_ge C (tgt := 34) (by decide) dX6_isSmall_5 (fun hc5 => ?_) (fun hc5 => ?_)
  · skip
    refine k_iconst C ic_0 dX6_isSmall_34 ?_
    exact k_zret C (by first | rfl | exact am_bz) (Nat.le_of_ble_eq_true rfl) (Nat.le_of_ble_eq_true rfl) (⟨congrArg (fun z => some (Value.int z)) (am_bf (by first | exact ⟨by omega, sp_isA_iff.mpr ⟨by omega, by omega⟩⟩ | exact (fun z => by have z1 := z.1; have z2 := sp_isA_iff.mp z.2; omega))), rfl, rfl, rfl⟩) dX6_isSmall_35
  · skip
    have hb := (t3 k (by omega)).2
    refine k_aload_n C (f := 0) (i := 0) (p := 0) rfl rfl dX6_isSmall_8 ?_
    refine k_getR C f_X6_29 (L6_s (by assumption)) (fun _ _ _ => rfl) (L6_7 (by assumption)) dX6_isSmall_9 ?_
    refine k_iload_n C (f := 1) (i := 1) (p := 1) rfl rfl dX6_isSmall_12 ?_
    refine k_iald C (A6_7 (by assumption)) (by first | rfl | assumption) (by omega) (by decide) ((t3 k (by omega)).1) dX6_isSmall_13 ?_
    refine k_bipush C bc_97 dX6_isSmall_14 ?_
    first
    | refine k_icmpN_lt C (tgt := 34) (by omega) (by omega) (by decide) dX6_isSmall_16 (fun hc16 => ?_) (fun hc16 => ?_)
    | refine k_icmp_lt C (tgt := 34) (by decide) dX6_isSmall_16 (fun hc16 => ?_) (fun hc16 => ?_)
    · skip
      refine k_iconst C ic_0 dX6_isSmall_34 ?_
      exact k_zret C (by first | rfl | exact am_bz) (Nat.le_of_ble_eq_true rfl) (Nat.le_of_ble_eq_true rfl) (⟨congrArg (fun z => some (Value.int z)) (am_bf (by first | exact ⟨by omega, sp_isA_iff.mpr ⟨by omega, by omega⟩⟩ | exact (fun z => by have z1 := z.1; have z2 := sp_isA_iff.mp z.2; omega))), rfl, rfl, rfl⟩) dX6_isSmall_35
    · skip
      refine k_aload_n C (f := 0) (i := 0) (p := 0) rfl rfl dX6_isSmall_19 ?_
      refine k_getR C f_X6_29 (L6_s (by assumption)) (fun _ _ _ => rfl) (L6_7 (by assumption)) dX6_isSmall_20 ?_
      refine k_iload_n C (f := 1) (i := 1) (p := 1) rfl rfl dX6_isSmall_23 ?_
      refine k_iald C (A6_7 (by assumption)) (by first | rfl | assumption) (by omega) (by decide) ((t3 k (by omega)).1) dX6_isSmall_24 ?_
      refine k_bipush C bc_122 dX6_isSmall_25 ?_
      first
      | refine k_icmpN_gt C (tgt := 34) (by omega) (by omega) (by decide) dX6_isSmall_27 (fun hc27 => ?_) (fun hc27 => ?_)
      | refine k_icmp_gt C (tgt := 34) (by decide) dX6_isSmall_27 (fun hc27 => ?_) (fun hc27 => ?_)
      · skip
        refine k_iconst C ic_0 dX6_isSmall_34 ?_
        exact k_zret C (by first | rfl | exact am_bz) (Nat.le_of_ble_eq_true rfl) (Nat.le_of_ble_eq_true rfl) (⟨congrArg (fun z => some (Value.int z)) (am_bf (by first | exact ⟨by omega, sp_isA_iff.mpr ⟨by omega, by omega⟩⟩ | exact (fun z => by have z1 := z.1; have z2 := sp_isA_iff.mp z.2; omega))), rfl, rfl, rfl⟩) dX6_isSmall_35
      · skip
        refine k_iconst C ic_1 dX6_isSmall_30 ?_
        refine k_goto C (tgt := 35) (by decide) dX6_isSmall_31 ?_
        exact k_zret C (by first | rfl | exact am_bz) (Nat.le_of_ble_eq_true rfl) (Nat.le_of_ble_eq_true rfl) (⟨congrArg (fun z => some (Value.int z)) (am_bt (by first | exact ⟨by omega, sp_isA_iff.mpr ⟨by omega, by omega⟩⟩ | exact (fun z => by have z1 := z.1; have z2 := sp_isA_iff.mp z.2; omega))), rfl, rfl, rfl⟩) dX6_isSmall_35
set_option maxHeartbeats 4000000 in
set_option maxRecDepth 100000 in
theorem ct_X6_isDigit {G : am_G} {Λ : am_L} {I : am_I} {J : am_J} {y n : Nat} {tb : Nat → Nat} {k : Nat}  (hx : ModLay Λ y) (ht : MTxt I y tb n) (hk : k ≤ 700) : am_Ct G yX6_isDigit cX6_isDigit 2 (some .boolean) { frames := 0, cells := 0, slots := 0, locals := 0 } [.ref y, .int (nI k)] Λ I J (am_pure (.int (am_b (k < n ∧ sp_isD (tb k) = true))) Λ I J) am_never := by
  refine am_ct_of (own := RX6) rfl (by decide) (Nat.le_of_ble_eq_true rfl) (fun X C => ?_)
  change am_K G X { frames := 0, cells := 0, slots := 0, locals := 0 } 2 Λ I J 0 0 0 [(0, .ref y), (1, .int (nI k))] []
  obtain ⟨t1, t2, t3⟩ := ht
  refine k_iload_n C (f := 1) (i := 1) (p := 1) rfl rfl dX6_isDigit_0 ?_
  refine k_aload_n C (f := 0) (i := 0) (p := 0) rfl rfl dX6_isDigit_1 ?_
  refine k_getI C f_X6_144 (L6_s (by assumption)) (fun _ _ _ => rfl) (t1) dX6_isDigit_2 ?_
  first
  | refine k_icmpN_ge C (tgt := 34) (by omega) (by omega) (by decide) dX6_isDigit_5 (fun hc5 => ?_) (fun hc5 => ?_)
  | refine k_icmp_ge C (tgt := 34) (by decide) dX6_isDigit_5 (fun hc5 => ?_) (fun hc5 => ?_)
  · skip
    refine k_iconst C ic_0 dX6_isDigit_34 ?_
    exact k_zret C (by first | rfl | exact am_bz) (Nat.le_of_ble_eq_true rfl) (Nat.le_of_ble_eq_true rfl) (⟨congrArg (fun z => some (Value.int z)) (am_bf (by first | exact ⟨by omega, sp_isD_iff.mpr ⟨by omega, by omega⟩⟩ | exact (fun z => by have z1 := z.1; have z2 := sp_isD_iff.mp z.2; omega))), rfl, rfl, rfl⟩) dX6_isDigit_35
  · skip
    have hb := (t3 k (by omega)).2
    refine k_aload_n C (f := 0) (i := 0) (p := 0) rfl rfl dX6_isDigit_8 ?_
    refine k_getR C f_X6_29 (L6_s (by assumption)) (fun _ _ _ => rfl) (L6_7 (by assumption)) dX6_isDigit_9 ?_
    refine k_iload_n C (f := 1) (i := 1) (p := 1) rfl rfl dX6_isDigit_12 ?_
    refine k_iald C (A6_7 (by assumption)) (by first | rfl | assumption) (by omega) (by decide) ((t3 k (by omega)).1) dX6_isDigit_13 ?_
    refine k_bipush C bc_48 dX6_isDigit_14 ?_
    first
    | refine k_icmpN_lt C (tgt := 34) (by omega) (by omega) (by decide) dX6_isDigit_16 (fun hc16 => ?_) (fun hc16 => ?_)
    | refine k_icmp_lt C (tgt := 34) (by decide) dX6_isDigit_16 (fun hc16 => ?_) (fun hc16 => ?_)
    · skip
      refine k_iconst C ic_0 dX6_isDigit_34 ?_
      exact k_zret C (by first | rfl | exact am_bz) (Nat.le_of_ble_eq_true rfl) (Nat.le_of_ble_eq_true rfl) (⟨congrArg (fun z => some (Value.int z)) (am_bf (by first | exact ⟨by omega, sp_isD_iff.mpr ⟨by omega, by omega⟩⟩ | exact (fun z => by have z1 := z.1; have z2 := sp_isD_iff.mp z.2; omega))), rfl, rfl, rfl⟩) dX6_isDigit_35
    · skip
      refine k_aload_n C (f := 0) (i := 0) (p := 0) rfl rfl dX6_isDigit_19 ?_
      refine k_getR C f_X6_29 (L6_s (by assumption)) (fun _ _ _ => rfl) (L6_7 (by assumption)) dX6_isDigit_20 ?_
      refine k_iload_n C (f := 1) (i := 1) (p := 1) rfl rfl dX6_isDigit_23 ?_
      refine k_iald C (A6_7 (by assumption)) (by first | rfl | assumption) (by omega) (by decide) ((t3 k (by omega)).1) dX6_isDigit_24 ?_
      refine k_bipush C bc_57 dX6_isDigit_25 ?_
      first
      | refine k_icmpN_gt C (tgt := 34) (by omega) (by omega) (by decide) dX6_isDigit_27 (fun hc27 => ?_) (fun hc27 => ?_)
      | refine k_icmp_gt C (tgt := 34) (by decide) dX6_isDigit_27 (fun hc27 => ?_) (fun hc27 => ?_)
      · skip
        refine k_iconst C ic_0 dX6_isDigit_34 ?_
        exact k_zret C (by first | rfl | exact am_bz) (Nat.le_of_ble_eq_true rfl) (Nat.le_of_ble_eq_true rfl) (⟨congrArg (fun z => some (Value.int z)) (am_bf (by first | exact ⟨by omega, sp_isD_iff.mpr ⟨by omega, by omega⟩⟩ | exact (fun z => by have z1 := z.1; have z2 := sp_isD_iff.mp z.2; omega))), rfl, rfl, rfl⟩) dX6_isDigit_35
      · skip
        refine k_iconst C ic_1 dX6_isDigit_30 ?_
        refine k_goto C (tgt := 35) (by decide) dX6_isDigit_31 ?_
        exact k_zret C (by first | rfl | exact am_bz) (Nat.le_of_ble_eq_true rfl) (Nat.le_of_ble_eq_true rfl) (⟨congrArg (fun z => some (Value.int z)) (am_bt (by first | exact ⟨by omega, sp_isD_iff.mpr ⟨by omega, by omega⟩⟩ | exact (fun z => by have z1 := z.1; have z2 := sp_isD_iff.mp z.2; omega))), rfl, rfl, rfl⟩) dX6_isDigit_35
set_option maxHeartbeats 4000000 in
set_option maxRecDepth 100000 in
theorem ct_X6_nextWord {G : am_G} {Λ : am_L} {I : am_I} {J : am_J} {y n : Nat} {tb : Nat → Nat} {st : Nat}  (hx : ModLay Λ y) (ht : MTxt I y tb n) (hk : st ≤ n) (h12 : I y 12 = nI st) (h13 : I y 13 = nI st) (hJ : J y 16 = lN 0) : am_Ct G yX6_nextWord cX6_nextWord 1 none { frames := 1, cells := 0, slots := 0, locals := 21 } [.ref y] Λ I J (am_gj Λ (fun v I' J' => v = none ∧ I' y 12 = nI (sp_end sp_isA tb n st) ∧ I' y 14 = nI 1 ∧ J' y 16 = lN (md_h (md_lt tb st) (min 8 (sp_end sp_isA tb n st - st))) ∧ (∀ b K : Nat, ¬ (b = y ∧ (K = 12 ∨ K = 14)) → I' b K = I b K) ∧ JFr y J J')) am_never := by
  refine am_ct_of (own := RX6) rfl (by decide) (Nat.le_of_ble_eq_true rfl) (fun X C => ?_)
  change am_K G X { frames := 1, cells := 0, slots := 0, locals := 21 } 1 Λ I J 0 0 0 [(0, .ref y)] []
  have loop0 : ∀ (f : Nat) (e : Nat) (I1 : am_I) (J1 : am_J), (e ≤ n) → (st ≤ e) → (I1 y 12 = nI e) → (sp_end sp_isA tb n st = sp_end sp_isA tb n e) → (J1 y 16 = lN (md_h (md_lt tb st) (min 8 (e - st)))) → (∀ b K : Nat, ¬ (b = y ∧ K = 12) → I1 b K = I b K) → (JFr y J J1) → (n - e) < f → am_K G X { frames := 1, cells := 0, slots := 0, locals := 21 } 1 Λ I1 J1 0 0 0 [(0, .ref y)] [] := by
    intro f
    induction f with
    | zero => intro e I1 J1 he hse h121 hE hJ1 hg1 hgJ hf; exact absurd hf (Nat.not_lt_zero _)
    | succ f ih0 =>
      intro e I1 J1 he hse h121 hE hJ1 hg1 hgJ hf
      have h131 : I1 y 13 = nI st := (hg1 y 13 (by omega)).trans h13
      have ht1 : MTxt I1 y tb n := by
        unfold MTxt
        rw [hg1 y 8 (by omega), show I1 (y + 7) = I (y + 7) from funext (fun K => hg1 _ K (by omega))]
        exact ht
      have hn7 := ht.2.1
      refine k_aload_n C (f := 0) (i := 0) (p := 0) rfl rfl dX6_nextWord_0 ?_
      refine k_aload_n C (f := 0) (i := 0) (p := 0) rfl rfl dX6_nextWord_1 ?_
      refine k_getI C f_X6_151 (L6_s (by assumption)) (fun _ _ _ => rfl) (h121) dX6_nextWord_2 ?_
      refine k_callVp C s_X6_167 h_X6_isSmall (L6_s (by assumption)) rfl (ct_X6_isSmall (k := e) hx ht1 (by omega)) rfl rfl (Nat.le_of_ble_eq_true rfl) ⟨Nat.le_of_ble_eq_true rfl, Nat.le_of_ble_eq_true rfl⟩ ⟨Nat.le_of_ble_eq_true rfl, Nat.le_of_ble_eq_true rfl⟩ ⟨rfl, rfl⟩ dX6_nextWord_5 ?_
      refine k_ifb_eq C (tgt := 65) (by decide) dX6_nextWord_8 (fun hc8 => ?_) (fun hc8 => ?_)
      · skip
        refine k_aload_n C (f := 0) (i := 0) (p := 0) rfl rfl dX6_nextWord_65 ?_
        refine k_iconst C ic_1 dX6_nextWord_66 ?_
        refine k_putI C f_X6_164 (L6_s (by assumption)) rfl rfl dX6_nextWord_67 ?_
        exact k_vret C (Nat.le_of_ble_eq_true rfl) (Nat.le_of_ble_eq_true rfl) (⟨rfl, by
            have hee : sp_end sp_isA tb n st = e := by rw [hE, sp_end_f hc8]
            exact ⟨rfl, by rw [am_up_n2 (by omega), hee]; exact h121, am_up_eq, by rw [hee]; exact hJ1, fun b K hb => by rw [am_up_n2 (by omega)]; exact hg1 b K (by omega), hgJ⟩⟩) dX6_nextWord_70
      · skip
        refine k_aload_n C (f := 0) (i := 0) (p := 0) rfl rfl dX6_nextWord_11 ?_
        refine k_getI C f_X6_151 (L6_s (by assumption)) (fun _ _ _ => rfl) (h121) dX6_nextWord_12 ?_
        refine k_aload_n C (f := 0) (i := 0) (p := 0) rfl rfl dX6_nextWord_15 ?_
        refine k_getI C f_X6_154 (L6_s (by assumption)) (fun _ _ _ => rfl) (h131) dX6_nextWord_16 ?_
        refine k_isub C dX6_nextWord_19 ?_
        rw [pk_sub hse]
        refine k_bipush C bc_8 dX6_nextWord_20 ?_
        first
        | refine k_icmpN_ge C (tgt := 52) (by omega) (by omega) (by decide) dX6_nextWord_22 (fun hc22 => ?_) (fun hc22 => ?_)
        | refine k_icmp_ge C (tgt := 52) (by decide) dX6_nextWord_22 (fun hc22 => ?_) (fun hc22 => ?_)
        · skip
          refine k_aload_n C (f := 0) (i := 0) (p := 0) rfl rfl dX6_nextWord_52 ?_
          refine k_dup C rfl dX6_nextWord_53 ?_
          refine k_getI C f_X6_151 (L6_s (by assumption)) (fun _ _ _ => rfl) (h121) dX6_nextWord_54 ?_
          refine k_iconst C ic_1 dX6_nextWord_57 ?_
          refine k_iadd C dX6_nextWord_58 ?_
          refine k_putI C f_X6_151 (L6_s (by assumption)) rfl rfl dX6_nextWord_59 ?_
          refine k_goto C (tgt := 0) (by decide) dX6_nextWord_62 ?_
          refine k_sub [0] rfl ?_
          first
          | exact ih0 (e + 1) _ _ (by omega) (by omega) (by rw [am_up_eq, nI_add1]) (hE.trans (sp_end_t hc8)) (by rw [am_ul_eq, show min 8 (e + 1 - st) = (e - st) + 1 by omega, hw27]) (fun b K hb => by rw [am_up_n2 hb]; exact hg1 b K hb) (fun b hb => by rw [am_ul_ne hb]; exact hgJ b hb) (by omega)
          | exact ih0 (e + 1) _ _ (by omega) (by omega) (by rw [am_up_eq, nI_add1]) (hE.trans (sp_end_t hc8)) (by rw [hJ1, show min 8 (e + 1 - st) = 8 by omega, show min 8 (e - st) = 8 by omega]) (fun b K hb => by rw [am_up_n2 hb]; exact hg1 b K hb) hgJ (by omega)
        · skip
          refine k_aload_n C (f := 0) (i := 0) (p := 0) rfl rfl dX6_nextWord_25 ?_
          refine k_ldc2 C l_X6_180 dX6_nextWord_26 ?_
          refine k_aload_n C (f := 0) (i := 0) (p := 0) rfl rfl dX6_nextWord_29 ?_
          refine k_getJ C f_X6_160 (L6_s (by assumption)) (fun _ _ _ => rfl) ((show J1 y 16 = lN (md_h (md_lt tb st) (e - st)) by rw [hJ1, show min 8 (e - st) = e - st by omega])) dX6_nextWord_30 ?_
          refine k_lmul C dX6_nextWord_33 ?_
          refine k_aload_n C (f := 0) (i := 0) (p := 0) rfl rfl dX6_nextWord_34 ?_
          refine k_getR C f_X6_29 (L6_s (by assumption)) (fun _ _ _ => rfl) (L6_7 (by assumption)) dX6_nextWord_35 ?_
          refine k_aload_n C (f := 0) (i := 0) (p := 0) rfl rfl dX6_nextWord_38 ?_
          refine k_getI C f_X6_151 (L6_s (by assumption)) (fun _ _ _ => rfl) (h121) dX6_nextWord_39 ?_
          refine k_iald C (A6_7 (by assumption)) (by first | rfl | assumption) (by omega) (by decide) ((ht1.2.2 e (by omega)).1) dX6_nextWord_42 ?_
          refine k_i2l C (nI_l (show tb e < 2 ^ 31 by have := (ht1.2.2 e (by omega)).2; omega)) dX6_nextWord_43 ?_
          refine k_ladd C dX6_nextWord_44 ?_
          refine k_ldc2 C l_X6_182 dX6_nextWord_45 ?_
          refine k_lsub C dX6_nextWord_48 ?_
          have hb1 := sp_isA_iff.mp hc8.2
          have hw27 : (27 : Int64) * lN (md_h (md_lt tb st) (e - st)) + lN (tb e) - 96 = lN (md_h (md_lt tb st) (e - st + 1)) := by
            rw [show (27 : Int64) = lN 27 from rfl, show (96 : Int64) = lN 96 from rfl, lN_mul, lN_add, lN_sub (by omega)]
            simp only [md_h, md_lt]
            rw [show st + (e - st) = e by omega]
            congr 1
            omega
          refine k_putJ C f_X6_160 (L6_s (by assumption)) rfl rfl dX6_nextWord_49 ?_
          refine k_aload_n C (f := 0) (i := 0) (p := 0) rfl rfl dX6_nextWord_52 ?_
          refine k_dup C rfl dX6_nextWord_53 ?_
          refine k_getI C f_X6_151 (L6_s (by assumption)) (fun _ _ _ => rfl) (h121) dX6_nextWord_54 ?_
          refine k_iconst C ic_1 dX6_nextWord_57 ?_
          refine k_iadd C dX6_nextWord_58 ?_
          refine k_putI C f_X6_151 (L6_s (by assumption)) rfl rfl dX6_nextWord_59 ?_
          refine k_goto C (tgt := 0) (by decide) dX6_nextWord_62 ?_
          refine k_sub [0] rfl ?_
          first
          | exact ih0 (e + 1) _ _ (by omega) (by omega) (by rw [am_up_eq, nI_add1]) (hE.trans (sp_end_t hc8)) (by rw [am_ul_eq, show min 8 (e + 1 - st) = (e - st) + 1 by omega, hw27]) (fun b K hb => by rw [am_up_n2 hb]; exact hg1 b K hb) (fun b hb => by rw [am_ul_ne hb]; exact hgJ b hb) (by omega)
          | exact ih0 (e + 1) _ _ (by omega) (by omega) (by rw [am_up_eq, nI_add1]) (hE.trans (sp_end_t hc8)) (by rw [hJ1, show min 8 (e + 1 - st) = 8 by omega, show min 8 (e - st) = 8 by omega]) (fun b K hb => by rw [am_up_n2 hb]; exact hg1 b K hb) hgJ (by omega)
  refine k_sub [0] rfl ?_
  exact loop0 (n + 1) st I J hk (Nat.le_refl _) h12 rfl (by rw [Nat.sub_self]; exact hJ) (fun _ _ _ => rfl) JFr.rf (by omega)
set_option maxHeartbeats 4000000 in
set_option maxRecDepth 100000 in
theorem ct_X6_nextNumber {G : am_G} {Λ : am_L} {I : am_I} {J : am_J} {y n : Nat} {tb : Nat → Nat} {st : Nat}  (hx : ModLay Λ y) (ht : MTxt I y tb n) (hk : st ≤ n) (h12 : I y 12 = nI st) (h13 : I y 13 = nI st) (h15 : I y 15 = nI 0) : am_Ct G yX6_nextNumber cX6_nextNumber 1 none { frames := 1, cells := 0, slots := 0, locals := 21 } [.ref y] Λ I J (am_gen Λ J (fun v I' => v = none ∧ I' y 12 = nI (sp_end sp_isD tb n st) ∧ I' y 14 = nI (if sp_end sp_isD tb n st - st ≤ 3 then 2 else 4) ∧ I' y 15 = nI (sp_val tb st (min 3 (sp_end sp_isD tb n st - st))) ∧ (∀ b K : Nat, ¬ (b = y ∧ (K = 12 ∨ K = 14 ∨ K = 15)) → I' b K = I b K))) am_never := by
  refine am_ct_of (own := RX6) rfl (by decide) (Nat.le_of_ble_eq_true rfl) (fun X C => ?_)
  change am_K G X { frames := 1, cells := 0, slots := 0, locals := 21 } 1 Λ I J 0 0 0 [(0, .ref y)] []
  have loop0 : ∀ (f : Nat) (e : Nat) (I1 : am_I), (e ≤ n) → (st ≤ e) → (I1 y 12 = nI e) → (sp_end sp_isD tb n st = sp_end sp_isD tb n e) → (I1 y 15 = nI (sp_val tb st (min 3 (e - st)))) → (∀ b K : Nat, ¬ (b = y ∧ (K = 12 ∨ K = 15)) → I1 b K = I b K) → (n - e) < f → am_K G X { frames := 1, cells := 0, slots := 0, locals := 21 } 1 Λ I1 J 0 0 0 [(0, .ref y)] [] := by
    intro f
    induction f with
    | zero => intro e I1 he hse h121 hE hsu hg1 hf; exact absurd hf (Nat.not_lt_zero _)
    | succ f ih0 =>
      intro e I1 he hse h121 hE hsu hg1 hf
      have h131 : I1 y 13 = nI st := (hg1 y 13 (by omega)).trans h13
      have ht1 : MTxt I1 y tb n := by
        unfold MTxt
        rw [hg1 y 8 (by omega), show I1 (y + 7) = I (y + 7) from funext (fun K => hg1 _ K (by omega))]
        exact ht
      have hn7 := ht.2.1
      refine k_aload_n C (f := 0) (i := 0) (p := 0) rfl rfl dX6_nextNumber_0 ?_
      refine k_aload_n C (f := 0) (i := 0) (p := 0) rfl rfl dX6_nextNumber_1 ?_
      refine k_getI C f_X6_151 (L6_s (by assumption)) (fun _ _ _ => rfl) (h121) dX6_nextNumber_2 ?_
      refine k_callVp C s_X6_174 h_X6_isDigit (L6_s (by assumption)) rfl (ct_X6_isDigit (k := e) hx ht1 (by omega)) rfl rfl (Nat.le_of_ble_eq_true rfl) ⟨Nat.le_of_ble_eq_true rfl, Nat.le_of_ble_eq_true rfl⟩ ⟨Nat.le_of_ble_eq_true rfl, Nat.le_of_ble_eq_true rfl⟩ ⟨rfl, rfl⟩ dX6_nextNumber_5 ?_
      refine k_ifb_eq C (tgt := 61) (by decide) dX6_nextNumber_8 (fun hc8 => ?_) (fun hc8 => ?_)
      · skip
        refine k_aload_n C (f := 0) (i := 0) (p := 0) rfl rfl dX6_nextNumber_61 ?_
        refine k_iconst C ic_2 dX6_nextNumber_62 ?_
        refine k_putI C f_X6_164 (L6_s (by assumption)) rfl rfl dX6_nextNumber_63 ?_
        refine k_aload_n C (f := 0) (i := 0) (p := 0) rfl rfl dX6_nextNumber_66 ?_
        refine k_getI C f_X6_151 (L6_s (by assumption)) (fun _ _ _ => rfl) (Eq.trans (am_up_n2 (by omega)) h121) dX6_nextNumber_67 ?_
        refine k_aload_n C (f := 0) (i := 0) (p := 0) rfl rfl dX6_nextNumber_70 ?_
        refine k_getI C f_X6_154 (L6_s (by assumption)) (fun _ _ _ => rfl) (Eq.trans (am_up_n2 (by omega)) h131) dX6_nextNumber_71 ?_
        refine k_isub C dX6_nextNumber_74 ?_
        rw [pk_sub hse]
        refine k_iconst C ic_3 dX6_nextNumber_75 ?_
        first
        | refine k_icmpN_le C (tgt := 84) (by omega) (by omega) (by decide) dX6_nextNumber_76 (fun hc76 => ?_) (fun hc76 => ?_)
        | refine k_icmp_le C (tgt := 84) (by decide) dX6_nextNumber_76 (fun hc76 => ?_) (fun hc76 => ?_)
        · skip
          exact k_vret C (Nat.le_of_ble_eq_true rfl) (Nat.le_of_ble_eq_true rfl) (⟨rfl, rfl, by
              have hee : sp_end sp_isD tb n st = e := by rw [hE, sp_end_f hc8]
              rw [hee]
              first
              | (rw [if_pos (by omega)]
                 exact ⟨rfl, by rw [am_up_n2 (by omega)]; exact h121, am_up_eq, by rw [am_up_n2 (by omega)]; exact hsu, fun b K hb => by rw [am_up_n2 (by omega)]; exact hg1 b K (by omega)⟩)
              | (rw [if_neg (by omega)]
                 exact ⟨rfl, by rw [am_up_n2 (by omega), am_up_n2 (by omega)]; exact h121, am_up_eq, by rw [am_up_n2 (by omega), am_up_n2 (by omega)]; exact hsu, fun b K hb => by rw [am_up_n2 (by omega), am_up_n2 (by omega)]; exact hg1 b K (by omega)⟩)⟩) dX6_nextNumber_84
        · skip
          refine k_aload_n C (f := 0) (i := 0) (p := 0) rfl rfl dX6_nextNumber_79 ?_
          refine k_iconst C ic_4 dX6_nextNumber_80 ?_
          refine k_putI C f_X6_164 (L6_s (by assumption)) rfl rfl dX6_nextNumber_81 ?_
          exact k_vret C (Nat.le_of_ble_eq_true rfl) (Nat.le_of_ble_eq_true rfl) (⟨rfl, rfl, by
              have hee : sp_end sp_isD tb n st = e := by rw [hE, sp_end_f hc8]
              rw [hee]
              first
              | (rw [if_pos (by omega)]
                 exact ⟨rfl, by rw [am_up_n2 (by omega)]; exact h121, am_up_eq, by rw [am_up_n2 (by omega)]; exact hsu, fun b K hb => by rw [am_up_n2 (by omega)]; exact hg1 b K (by omega)⟩)
              | (rw [if_neg (by omega)]
                 exact ⟨rfl, by rw [am_up_n2 (by omega), am_up_n2 (by omega)]; exact h121, am_up_eq, by rw [am_up_n2 (by omega), am_up_n2 (by omega)]; exact hsu, fun b K hb => by rw [am_up_n2 (by omega), am_up_n2 (by omega)]; exact hg1 b K (by omega)⟩)⟩) dX6_nextNumber_84
      · skip
        refine k_aload_n C (f := 0) (i := 0) (p := 0) rfl rfl dX6_nextNumber_11 ?_
        refine k_getI C f_X6_151 (L6_s (by assumption)) (fun _ _ _ => rfl) (h121) dX6_nextNumber_12 ?_
        refine k_aload_n C (f := 0) (i := 0) (p := 0) rfl rfl dX6_nextNumber_15 ?_
        refine k_getI C f_X6_154 (L6_s (by assumption)) (fun _ _ _ => rfl) (h131) dX6_nextNumber_16 ?_
        refine k_isub C dX6_nextNumber_19 ?_
        rw [pk_sub hse]
        refine k_iconst C ic_3 dX6_nextNumber_20 ?_
        first
        | refine k_icmpN_ge C (tgt := 48) (by omega) (by omega) (by decide) dX6_nextNumber_21 (fun hc21 => ?_) (fun hc21 => ?_)
        | refine k_icmp_ge C (tgt := 48) (by decide) dX6_nextNumber_21 (fun hc21 => ?_) (fun hc21 => ?_)
        · skip
          refine k_aload_n C (f := 0) (i := 0) (p := 0) rfl rfl dX6_nextNumber_48 ?_
          refine k_dup C rfl dX6_nextNumber_49 ?_
          refine k_getI C f_X6_151 (L6_s (by assumption)) (fun _ _ _ => rfl) (by first | exact h121 | exact Eq.trans (by rw [hI2]; exact am_up_n2 (by omega)) h121) dX6_nextNumber_50 ?_
          refine k_iconst C ic_1 dX6_nextNumber_53 ?_
          refine k_iadd C dX6_nextNumber_54 ?_
          refine k_putI C f_X6_151 (L6_s (by assumption)) rfl rfl dX6_nextNumber_55 ?_
          refine k_goto C (tgt := 0) (by decide) dX6_nextNumber_58 ?_
          refine k_sub [0] rfl ?_
          first
          | exact ih0 (e + 1) _ (by omega) (by omega) (by rw [am_up_eq, nI_add1]) (hE.trans (sp_end_t hc8)) (by rw [am_up_n2 (by omega), hI2, am_up_eq, show min 3 (e + 1 - st) = (e - st) + 1 by omega]) (fun b K hb => by rw [am_up_n2 (by omega), hI2, am_up_n2 (by omega)]; exact hg1 b K hb) (by omega)
          | exact ih0 (e + 1) _ (by omega) (by omega) (by rw [am_up_eq, nI_add1]) (hE.trans (sp_end_t hc8)) (by rw [am_up_n2 (by omega), hsu, show min 3 (e + 1 - st) = 3 by omega, show min 3 (e - st) = 3 by omega]) (fun b K hb => by rw [am_up_n2 (by omega)]; exact hg1 b K hb) (by omega)
        · skip
          refine k_aload_n C (f := 0) (i := 0) (p := 0) rfl rfl dX6_nextNumber_24 ?_
          refine k_bipush C bc_10 dX6_nextNumber_25 ?_
          refine k_aload_n C (f := 0) (i := 0) (p := 0) rfl rfl dX6_nextNumber_27 ?_
          refine k_getI C f_X6_157 (L6_s (by assumption)) (fun _ _ _ => rfl) ((show I1 y 15 = nI (sp_val tb st (e - st)) by rw [hsu, show min 3 (e - st) = e - st by omega])) dX6_nextNumber_28 ?_
          refine k_imul C dX6_nextNumber_31 ?_
          refine k_aload_n C (f := 0) (i := 0) (p := 0) rfl rfl dX6_nextNumber_32 ?_
          refine k_getR C f_X6_29 (L6_s (by assumption)) (fun _ _ _ => rfl) (L6_7 (by assumption)) dX6_nextNumber_33 ?_
          refine k_aload_n C (f := 0) (i := 0) (p := 0) rfl rfl dX6_nextNumber_36 ?_
          refine k_getI C f_X6_151 (L6_s (by assumption)) (fun _ _ _ => rfl) (h121) dX6_nextNumber_37 ?_
          refine k_iald C (A6_7 (by assumption)) (by first | rfl | assumption) (by omega) (by decide) ((ht1.2.2 e (by omega)).1) dX6_nextNumber_40 ?_
          refine k_iadd C dX6_nextNumber_41 ?_
          refine k_bipush C bc_48 dX6_nextNumber_42 ?_
          refine k_isub C dX6_nextNumber_44 ?_
          have hb1 := sp_isD_iff.mp hc8.2
          rw [show nI 10 * nI (sp_val tb st (e - st)) + nI (tb e) - nI 48 = nI (sp_val tb st (e - st + 1)) by
            rw [nI_mul, nI_add, pk_sub (by omega)]
            simp only [sp_val]
            rw [show st + (e - st) = e by omega]
            congr 1
            omega]
          refine k_putI C f_X6_157 (L6_s (by assumption)) rfl rfl dX6_nextNumber_45 ?_
          obtain ⟨I2, hI2⟩ : ∃ z : am_I, z = am_up I1 y 15 (nI (sp_val tb st (e - st + 1))) := ⟨_, rfl⟩
          rw [← hI2]
          refine k_aload_n C (f := 0) (i := 0) (p := 0) rfl rfl dX6_nextNumber_48 ?_
          refine k_dup C rfl dX6_nextNumber_49 ?_
          refine k_getI C f_X6_151 (L6_s (by assumption)) (fun _ _ _ => rfl) (by first | exact h121 | exact Eq.trans (by rw [hI2]; exact am_up_n2 (by omega)) h121) dX6_nextNumber_50 ?_
          refine k_iconst C ic_1 dX6_nextNumber_53 ?_
          refine k_iadd C dX6_nextNumber_54 ?_
          refine k_putI C f_X6_151 (L6_s (by assumption)) rfl rfl dX6_nextNumber_55 ?_
          refine k_goto C (tgt := 0) (by decide) dX6_nextNumber_58 ?_
          refine k_sub [0] rfl ?_
          first
          | exact ih0 (e + 1) _ (by omega) (by omega) (by rw [am_up_eq, nI_add1]) (hE.trans (sp_end_t hc8)) (by rw [am_up_n2 (by omega), hI2, am_up_eq, show min 3 (e + 1 - st) = (e - st) + 1 by omega]) (fun b K hb => by rw [am_up_n2 (by omega), hI2, am_up_n2 (by omega)]; exact hg1 b K hb) (by omega)
          | exact ih0 (e + 1) _ (by omega) (by omega) (by rw [am_up_eq, nI_add1]) (hE.trans (sp_end_t hc8)) (by rw [am_up_n2 (by omega), hsu, show min 3 (e + 1 - st) = 3 by omega, show min 3 (e - st) = 3 by omega]) (fun b K hb => by rw [am_up_n2 (by omega)]; exact hg1 b K hb) (by omega)
  refine k_sub [0] rfl ?_
  exact loop0 (n + 1) st I hk (Nat.le_refl _) h12 rfl (by rw [Nat.sub_self]; exact h15) (fun _ _ _ => rfl) (by omega)
set_option maxHeartbeats 4000000 in
set_option maxRecDepth 100000 in
theorem ct_X6_next {G : am_G} {Λ : am_L} {I : am_I} {J : am_J} {y n : Nat} {tb : Nat → Nat} {k : Nat}  (hx : ModLay Λ y) (ht : MTxt I y tb n) (hk : k ≤ n) (h12 : I y 12 = nI k) : am_Ct G yX6_next cX6_next 1 none { frames := 2, cells := 0, slots := 0, locals := 41 } [.ref y] Λ I J (am_gj Λ (fun v I' J' => v = none ∧ MTok I' J' y tb n (sp_tok tb n k) ∧ TFr y I I' ∧ JFr y J J')) am_never := by
  refine am_ct_of (own := RX6) rfl (by decide) (Nat.le_of_ble_eq_true rfl) (fun X C => ?_)
  change am_K G X { frames := 2, cells := 0, slots := 0, locals := 41 } 1 Λ I J 0 0 0 [(0, .ref y)] []
  have loop0 : ∀ (f : Nat) (s : Nat) (I1 : am_I), (s ≤ n) → (I1 y 12 = nI s) → (sp_end sp_isS tb n k = sp_end sp_isS tb n s) → (∀ b K : Nat, ¬ (b = y ∧ K = 12) → I1 b K = I b K) → (n - s) < f → am_K G X { frames := 2, cells := 0, slots := 0, locals := 41 } 1 Λ I1 J 0 0 0 [(0, .ref y)] [] := by
    intro f
    induction f with
    | zero => intro s I1 hs h121 hE hg1 hf; exact absurd hf (Nat.not_lt_zero _)
    | succ f ih0 =>
      intro s I1 hs h121 hE hg1 hf
      have hf1 : TFr y I I1 := fun b K hb => hg1 b K (fun z => hb (by omega))
      have ht1 := hf1.mp.txt ht
      have hn7 := ht.2.1
      have t81 := ht1.1
      refine k_aload_n C (f := 0) (i := 0) (p := 0) rfl rfl dX6_next_0 ?_
      refine k_getI C f_X6_151 (L6_s (by assumption)) (fun _ _ _ => rfl) (h121) dX6_next_1 ?_
      refine k_aload_n C (f := 0) (i := 0) (p := 0) rfl rfl dX6_next_4 ?_
      refine k_getI C f_X6_144 (L6_s (by assumption)) (fun _ _ _ => rfl) (t81) dX6_next_5 ?_
      first
      | refine k_icmpN_ge C (tgt := 52) (by omega) (by omega) (by decide) dX6_next_8 (fun hc8 => ?_) (fun hc8 => ?_)
      | refine k_icmp_ge C (tgt := 52) (by decide) dX6_next_8 (fun hc8 => ?_) (fun hc8 => ?_)
      · skip
        refine k_aload_n C (f := 0) (i := 0) (p := 0) rfl rfl dX6_next_52 ?_
        refine k_aload_n C (f := 0) (i := 0) (p := 0) rfl rfl dX6_next_53 ?_
        refine k_getI C f_X6_151 (L6_s (by assumption)) (fun _ _ _ => rfl) (h121) dX6_next_54 ?_
        refine k_putI C f_X6_154 (L6_s (by assumption)) rfl rfl dX6_next_57 ?_
        refine k_aload_n C (f := 0) (i := 0) (p := 0) rfl rfl dX6_next_60 ?_
        refine k_iconst C ic_0 dX6_next_61 ?_
        refine k_putI C f_X6_157 (L6_s (by assumption)) rfl rfl dX6_next_62 ?_
        refine k_aload_n C (f := 0) (i := 0) (p := 0) rfl rfl dX6_next_65 ?_
        refine k_lconst C rfl dX6_next_66 ?_
        refine k_putJ C f_X6_160 (L6_s (by assumption)) rfl rfl dX6_next_67 ?_
        obtain ⟨I2, hI2⟩ : ∃ z : am_I, z = am_up (am_up I1 y 13 (nI s)) y 15 (nI 0) := ⟨_, rfl⟩
        rw [← hI2]
        obtain ⟨J2, hJ2⟩ : ∃ z : am_J, z = am_ul J y 16 (Int64.ofNat ((0 : Fin 2) : Nat)) := ⟨_, rfl⟩
        rw [← hJ2]
        have hgJ : JFr y J J2 := fun b hb => by rw [hJ2, am_ul_ne hb]
        have hJ0 : J2 y 16 = lN 0 := by rw [hJ2, am_ul_eq]; rfl
        have hf2 : TFr y I I2 := fun b K hb => by rw [hI2, am_up_n2 (by omega), am_up_n2 (by omega)]; exact hf1 b K hb
        have ht2 := hf2.mp.txt ht
        have t82 := ht2.1
        have h122 : I2 y 12 = nI s := by rw [hI2, am_up_n2 (by omega), am_up_n2 (by omega)]; exact h121
        have h132 : I2 y 13 = nI s := by rw [hI2, am_up_n2 (by omega), am_up_eq]
        have h152 : I2 y 15 = nI 0 := by rw [hI2, am_up_eq]
        clear hI2 hJ2
        have hend : sp_end sp_isS tb n k = s := by rw [hE, sp_end_f (fun z => by have := sp_isS_iff.mp z.2; omega)]
        have hT := sp_tokAt_b (tb := tb) (n := n) (show s ≤ n from hs)
        refine k_aload_n C (f := 0) (i := 0) (p := 0) rfl rfl dX6_next_70 ?_
        refine k_getI C f_X6_151 (L6_s (by assumption)) (fun _ _ _ => rfl) (h122) dX6_next_71 ?_
        refine k_aload_n C (f := 0) (i := 0) (p := 0) rfl rfl dX6_next_74 ?_
        refine k_getI C f_X6_144 (L6_s (by assumption)) (fun _ _ _ => rfl) (t82) dX6_next_75 ?_
        first
        | refine k_icmpN_ne C (tgt := 89) (by omega) (by omega) (by decide) dX6_next_78 (fun hc78 => ?_) (fun hc78 => ?_)
        | refine k_icmp_ne C (tgt := 89) (by decide) dX6_next_78 (fun hc78 => ?_) (fun hc78 => ?_)
        · skip
          refine k_aload_n C (f := 0) (i := 0) (p := 0) rfl rfl dX6_next_89 ?_
          refine k_aload_n C (f := 0) (i := 0) (p := 0) rfl rfl dX6_next_90 ?_
          refine k_getI C f_X6_151 (L6_s (by assumption)) (fun _ _ _ => rfl) (h122) dX6_next_91 ?_
          refine k_callVp C s_X6_167 h_X6_isSmall (L6_s (by assumption)) rfl (ct_X6_isSmall (k := s) hx ht2 (by omega)) rfl rfl (Nat.le_of_ble_eq_true rfl) ⟨Nat.le_of_ble_eq_true rfl, Nat.le_of_ble_eq_true rfl⟩ ⟨Nat.le_of_ble_eq_true rfl, Nat.le_of_ble_eq_true rfl⟩ ⟨rfl, rfl⟩ dX6_next_94 ?_
          refine k_ifb_eq C (tgt := 107) (by decide) dX6_next_97 (fun hc97 => ?_) (fun hc97 => ?_)
          · skip
            refine k_aload_n C (f := 0) (i := 0) (p := 0) rfl rfl dX6_next_107 ?_
            refine k_aload_n C (f := 0) (i := 0) (p := 0) rfl rfl dX6_next_108 ?_
            refine k_getI C f_X6_151 (L6_s (by assumption)) (fun _ _ _ => rfl) (h122) dX6_next_109 ?_
            refine k_callVp C s_X6_174 h_X6_isDigit (L6_s (by assumption)) rfl (ct_X6_isDigit (k := s) hx ht2 (by omega)) rfl rfl (Nat.le_of_ble_eq_true rfl) ⟨Nat.le_of_ble_eq_true rfl, Nat.le_of_ble_eq_true rfl⟩ ⟨Nat.le_of_ble_eq_true rfl, Nat.le_of_ble_eq_true rfl⟩ ⟨rfl, rfl⟩ dX6_next_112 ?_
            refine k_ifb_eq C (tgt := 125) (by decide) dX6_next_115 (fun hc115 => ?_) (fun hc115 => ?_)
            · skip
              refine k_aload_n C (f := 0) (i := 0) (p := 0) rfl rfl dX6_next_125 ?_
              refine k_iconst C ic_4 dX6_next_126 ?_
              refine k_putI C f_X6_164 (L6_s (by assumption)) rfl rfl dX6_next_127 ?_
              obtain ⟨I3, hI3⟩ : ∃ z : am_I, z = am_up I2 y 14 (nI 4) := ⟨_, rfl⟩
              rw [← hI3]
              have hf3 : TFr y I I3 := fun b K hb => by rw [hI3, am_up_n2 (by omega)]; exact hf2 b K hb
              have ht3 := hf3.mp.txt ht
              have h123 : I3 y 12 = nI s := by rw [hI3, am_up_n2 (by omega)]; exact h122
              have hb3 := (ht3.2.2 s (by omega)).2
              refine k_aload_n C (f := 0) (i := 0) (p := 0) rfl rfl dX6_next_130 ?_
              refine k_getR C f_X6_29 (L6_s (by assumption)) (fun _ _ _ => rfl) (L6_7 (by assumption)) dX6_next_131 ?_
              refine k_aload_n C (f := 0) (i := 0) (p := 0) rfl rfl dX6_next_134 ?_
              refine k_getI C f_X6_151 (L6_s (by assumption)) (fun _ _ _ => rfl) (h123) dX6_next_135 ?_
              refine k_iald C (A6_7 (by assumption)) (by first | rfl | assumption) (by omega) (by decide) ((ht3.2.2 s (by omega)).1) dX6_next_138 ?_
              refine k_bipush C bc_59 dX6_next_139 ?_
              first
              | refine k_icmpN_ne C (tgt := 149) (by omega) (by omega) (by decide) dX6_next_141 (fun hc141 => ?_) (fun hc141 => ?_)
              | refine k_icmp_ne C (tgt := 149) (by decide) dX6_next_141 (fun hc141 => ?_) (fun hc141 => ?_)
              · skip
                refine k_aload_n C (f := 0) (i := 0) (p := 0) rfl rfl dX6_next_149 ?_
                refine k_dup C rfl dX6_next_150 ?_
                refine k_getI C f_X6_151 (L6_s (by assumption)) (fun _ _ _ => rfl) (by first | exact h123 | exact Eq.trans (am_up_n2 (by omega)) h123) dX6_next_151 ?_
                refine k_iconst C ic_1 dX6_next_154 ?_
                refine k_iadd C dX6_next_155 ?_
                refine k_putI C f_X6_151 (L6_s (by assumption)) rfl rfl dX6_next_156 ?_
                exact k_vret C (Nat.le_of_ble_eq_true rfl) (Nat.le_of_ble_eq_true rfl) (⟨rfl, by
                  refine ⟨rfl, ?_, ?_, ?_⟩
                  · unfold sp_tok
                    rw [hend]
                    first
                    | (have e := sp_tokAt_0 (tb := tb) (show n ≤ s by omega)
                       rw [e]
                       exact ⟨am_up_eq, by rw [am_up_n2 (by omega)]; exact h132, by rw [am_up_n2 (by omega)]; exact h122, by rw [am_up_n2 (by omega)]; exact h152, (fun z => by cases z), (by show (0:Nat) ≤ 4; omega), Nat.le_refl _, hs, (by show (0:Nat) ≤ 999; omega)⟩)
                    | (have e := sp_tokAt_1 (tb := tb) hc97.1 (sp_isA_iff.mp hc97.2)
                       rw [e] at hT ⊢
                       exact ⟨q14, (qf y 13 (by omega)).trans h132, q12, (qf y 15 (by omega)).trans h152, (fun _ => ⟨qJ, fun j h1 h2 => sp_isA_iff.mp (sp_end_all hs j h1 h2)⟩), hT.1, hT.2.2.1, hT.2.2.2.1, hT.2.2.2.2⟩)
                    | (have e := sp_tokAt_2 (tb := tb) hc115.1 (sp_isD_iff.mp hc115.2)
                       rw [e] at hT ⊢
                       exact ⟨q14, (qf y 13 (by omega)).trans h132, q12, q15, (fun z => by
                         have z2 : (if sp_end sp_isD tb n s - s ≤ 3 then 2 else 4) = 1 := z
                         split at z2 <;> omega), hT.1, hT.2.2.1, hT.2.2.2.1, hT.2.2.2.2⟩)
                    | (have e := sp_tokAt_3 (tb := tb) (show s < n by omega) (fun z => hc97 ⟨by omega, sp_isA_iff.mpr z⟩) (fun z => hc115 ⟨by omega, sp_isD_iff.mpr z⟩)
                       rw [e] at hT ⊢
                       refine ⟨?_, ?_, by rw [am_up_eq, nI_add1], ?_, (fun z => ?_), hT.1, hT.2.2.1, hT.2.2.2.1, hT.2.2.2.2⟩
                       · first
                         | (rw [if_pos (show tb s = 59 by omega), am_up_n2 (by omega), am_up_eq]; done)
                         | (rw [if_neg (show ¬ tb s = 59 by omega), am_up_n2 (by omega), hI3, am_up_eq]; done)
                       · first
                         | (rw [am_up_n2 (by omega), am_up_n2 (by omega), hI3, am_up_n2 (by omega)]; exact h132)
                         | (rw [am_up_n2 (by omega), hI3, am_up_n2 (by omega)]; exact h132)
                       · first
                         | (rw [am_up_n2 (by omega), am_up_n2 (by omega), hI3, am_up_n2 (by omega)]; exact h152)
                         | (rw [am_up_n2 (by omega), hI3, am_up_n2 (by omega)]; exact h152)
                       · have z2 : (if tb s = 59 then 3 else 4) = 1 := z
                         split at z2 <;> omega)
                  · intro b K hb
                    first
                    | exact (qf b K (by omega)).trans (hf2 b K hb)
                    | (rw [am_up_n2 (by omega)]; exact hf2 b K hb)
                    | (rw [am_up_n2 (by omega), am_up_n2 (by omega)]; exact hf3 b K hb)
                    | (rw [am_up_n2 (by omega)]; exact hf3 b K hb)
                  · first
                    | exact hgJ.tr qg
                    | exact hgJ⟩) dX6_next_159
              · skip
                refine k_aload_n C (f := 0) (i := 0) (p := 0) rfl rfl dX6_next_144 ?_
                refine k_iconst C ic_3 dX6_next_145 ?_
                refine k_putI C f_X6_164 (L6_s (by assumption)) rfl rfl dX6_next_146 ?_
                refine k_aload_n C (f := 0) (i := 0) (p := 0) rfl rfl dX6_next_149 ?_
                refine k_dup C rfl dX6_next_150 ?_
                refine k_getI C f_X6_151 (L6_s (by assumption)) (fun _ _ _ => rfl) (by first | exact h123 | exact Eq.trans (am_up_n2 (by omega)) h123) dX6_next_151 ?_
                refine k_iconst C ic_1 dX6_next_154 ?_
                refine k_iadd C dX6_next_155 ?_
                refine k_putI C f_X6_151 (L6_s (by assumption)) rfl rfl dX6_next_156 ?_
                exact k_vret C (Nat.le_of_ble_eq_true rfl) (Nat.le_of_ble_eq_true rfl) (⟨rfl, by
                  refine ⟨rfl, ?_, ?_, ?_⟩
                  · unfold sp_tok
                    rw [hend]
                    first
                    | (have e := sp_tokAt_0 (tb := tb) (show n ≤ s by omega)
                       rw [e]
                       exact ⟨am_up_eq, by rw [am_up_n2 (by omega)]; exact h132, by rw [am_up_n2 (by omega)]; exact h122, by rw [am_up_n2 (by omega)]; exact h152, (fun z => by cases z), (by show (0:Nat) ≤ 4; omega), Nat.le_refl _, hs, (by show (0:Nat) ≤ 999; omega)⟩)
                    | (have e := sp_tokAt_1 (tb := tb) hc97.1 (sp_isA_iff.mp hc97.2)
                       rw [e] at hT ⊢
                       exact ⟨q14, (qf y 13 (by omega)).trans h132, q12, (qf y 15 (by omega)).trans h152, (fun _ => ⟨qJ, fun j h1 h2 => sp_isA_iff.mp (sp_end_all hs j h1 h2)⟩), hT.1, hT.2.2.1, hT.2.2.2.1, hT.2.2.2.2⟩)
                    | (have e := sp_tokAt_2 (tb := tb) hc115.1 (sp_isD_iff.mp hc115.2)
                       rw [e] at hT ⊢
                       exact ⟨q14, (qf y 13 (by omega)).trans h132, q12, q15, (fun z => by
                         have z2 : (if sp_end sp_isD tb n s - s ≤ 3 then 2 else 4) = 1 := z
                         split at z2 <;> omega), hT.1, hT.2.2.1, hT.2.2.2.1, hT.2.2.2.2⟩)
                    | (have e := sp_tokAt_3 (tb := tb) (show s < n by omega) (fun z => hc97 ⟨by omega, sp_isA_iff.mpr z⟩) (fun z => hc115 ⟨by omega, sp_isD_iff.mpr z⟩)
                       rw [e] at hT ⊢
                       refine ⟨?_, ?_, by rw [am_up_eq, nI_add1], ?_, (fun z => ?_), hT.1, hT.2.2.1, hT.2.2.2.1, hT.2.2.2.2⟩
                       · first
                         | (rw [if_pos (show tb s = 59 by omega), am_up_n2 (by omega), am_up_eq]; done)
                         | (rw [if_neg (show ¬ tb s = 59 by omega), am_up_n2 (by omega), hI3, am_up_eq]; done)
                       · first
                         | (rw [am_up_n2 (by omega), am_up_n2 (by omega), hI3, am_up_n2 (by omega)]; exact h132)
                         | (rw [am_up_n2 (by omega), hI3, am_up_n2 (by omega)]; exact h132)
                       · first
                         | (rw [am_up_n2 (by omega), am_up_n2 (by omega), hI3, am_up_n2 (by omega)]; exact h152)
                         | (rw [am_up_n2 (by omega), hI3, am_up_n2 (by omega)]; exact h152)
                       · have z2 : (if tb s = 59 then 3 else 4) = 1 := z
                         split at z2 <;> omega)
                  · intro b K hb
                    first
                    | exact (qf b K (by omega)).trans (hf2 b K hb)
                    | (rw [am_up_n2 (by omega)]; exact hf2 b K hb)
                    | (rw [am_up_n2 (by omega), am_up_n2 (by omega)]; exact hf3 b K hb)
                    | (rw [am_up_n2 (by omega)]; exact hf3 b K hb)
                  · first
                    | exact hgJ.tr qg
                    | exact hgJ⟩) dX6_next_159
            · skip
              refine k_aload_n C (f := 0) (i := 0) (p := 0) rfl rfl dX6_next_118 ?_
              refine k_callVg C s_X6_177 h_X6_nextNumber (L6_s (by assumption)) rfl (ct_X6_nextNumber (st := s) hx ht2 hs h122 h132 h152) rfl rfl (Nat.le_of_ble_eq_true rfl) ⟨Nat.le_of_ble_eq_true rfl, Nat.le_of_ble_eq_true rfl⟩ ⟨Nat.le_of_ble_eq_true rfl, Nat.le_of_ble_eq_true rfl⟩ ⟨rfl, rfl⟩ dX6_next_119 ?_
              intro v I4 hv
              obtain ⟨rfl, q12, q14, q15, qf⟩ := hv
              refine k_goto C (tgt := 159) (by decide) dX6_next_122 ?_
              exact k_vret C (Nat.le_of_ble_eq_true rfl) (Nat.le_of_ble_eq_true rfl) (⟨rfl, by
                refine ⟨rfl, ?_, ?_, ?_⟩
                · unfold sp_tok
                  rw [hend]
                  first
                  | (have e := sp_tokAt_0 (tb := tb) (show n ≤ s by omega)
                     rw [e]
                     exact ⟨am_up_eq, by rw [am_up_n2 (by omega)]; exact h132, by rw [am_up_n2 (by omega)]; exact h122, by rw [am_up_n2 (by omega)]; exact h152, (fun z => by cases z), (by show (0:Nat) ≤ 4; omega), Nat.le_refl _, hs, (by show (0:Nat) ≤ 999; omega)⟩)
                  | (have e := sp_tokAt_1 (tb := tb) hc97.1 (sp_isA_iff.mp hc97.2)
                     rw [e] at hT ⊢
                     exact ⟨q14, (qf y 13 (by omega)).trans h132, q12, (qf y 15 (by omega)).trans h152, (fun _ => ⟨qJ, fun j h1 h2 => sp_isA_iff.mp (sp_end_all hs j h1 h2)⟩), hT.1, hT.2.2.1, hT.2.2.2.1, hT.2.2.2.2⟩)
                  | (have e := sp_tokAt_2 (tb := tb) hc115.1 (sp_isD_iff.mp hc115.2)
                     rw [e] at hT ⊢
                     exact ⟨q14, (qf y 13 (by omega)).trans h132, q12, q15, (fun z => by
                       have z2 : (if sp_end sp_isD tb n s - s ≤ 3 then 2 else 4) = 1 := z
                       split at z2 <;> omega), hT.1, hT.2.2.1, hT.2.2.2.1, hT.2.2.2.2⟩)
                  | (have e := sp_tokAt_3 (tb := tb) (show s < n by omega) (fun z => hc97 ⟨by omega, sp_isA_iff.mpr z⟩) (fun z => hc115 ⟨by omega, sp_isD_iff.mpr z⟩)
                     rw [e] at hT ⊢
                     refine ⟨?_, ?_, by rw [am_up_eq, nI_add1], ?_, (fun z => ?_), hT.1, hT.2.2.1, hT.2.2.2.1, hT.2.2.2.2⟩
                     · first
                       | (rw [if_pos (show tb s = 59 by omega), am_up_n2 (by omega), am_up_eq]; done)
                       | (rw [if_neg (show ¬ tb s = 59 by omega), am_up_n2 (by omega), hI3, am_up_eq]; done)
                     · first
                       | (rw [am_up_n2 (by omega), am_up_n2 (by omega), hI3, am_up_n2 (by omega)]; exact h132)
                       | (rw [am_up_n2 (by omega), hI3, am_up_n2 (by omega)]; exact h132)
                     · first
                       | (rw [am_up_n2 (by omega), am_up_n2 (by omega), hI3, am_up_n2 (by omega)]; exact h152)
                       | (rw [am_up_n2 (by omega), hI3, am_up_n2 (by omega)]; exact h152)
                     · have z2 : (if tb s = 59 then 3 else 4) = 1 := z
                       split at z2 <;> omega)
                · intro b K hb
                  first
                  | exact (qf b K (by omega)).trans (hf2 b K hb)
                  | (rw [am_up_n2 (by omega)]; exact hf2 b K hb)
                  | (rw [am_up_n2 (by omega), am_up_n2 (by omega)]; exact hf3 b K hb)
                  | (rw [am_up_n2 (by omega)]; exact hf3 b K hb)
                · first
                  | exact hgJ.tr qg
                  | exact hgJ⟩) dX6_next_159
          · skip
            refine k_aload_n C (f := 0) (i := 0) (p := 0) rfl rfl dX6_next_100 ?_
            refine k_callVj C s_X6_171 h_X6_nextWord (L6_s (by assumption)) rfl (ct_X6_nextWord (st := s) hx ht2 hs h122 h132 hJ0) rfl rfl (Nat.le_of_ble_eq_true rfl) ⟨Nat.le_of_ble_eq_true rfl, Nat.le_of_ble_eq_true rfl⟩ ⟨Nat.le_of_ble_eq_true rfl, Nat.le_of_ble_eq_true rfl⟩ ⟨rfl, rfl⟩ dX6_next_101 ?_
            intro v I4 J4 hv
            obtain ⟨rfl, q12, q14, qJ, qf, qg⟩ := hv
            refine k_goto C (tgt := 159) (by decide) dX6_next_104 ?_
            exact k_vret C (Nat.le_of_ble_eq_true rfl) (Nat.le_of_ble_eq_true rfl) (⟨rfl, by
              refine ⟨rfl, ?_, ?_, ?_⟩
              · unfold sp_tok
                rw [hend]
                first
                | (have e := sp_tokAt_0 (tb := tb) (show n ≤ s by omega)
                   rw [e]
                   exact ⟨am_up_eq, by rw [am_up_n2 (by omega)]; exact h132, by rw [am_up_n2 (by omega)]; exact h122, by rw [am_up_n2 (by omega)]; exact h152, (fun z => by cases z), (by show (0:Nat) ≤ 4; omega), Nat.le_refl _, hs, (by show (0:Nat) ≤ 999; omega)⟩)
                | (have e := sp_tokAt_1 (tb := tb) hc97.1 (sp_isA_iff.mp hc97.2)
                   rw [e] at hT ⊢
                   exact ⟨q14, (qf y 13 (by omega)).trans h132, q12, (qf y 15 (by omega)).trans h152, (fun _ => ⟨qJ, fun j h1 h2 => sp_isA_iff.mp (sp_end_all hs j h1 h2)⟩), hT.1, hT.2.2.1, hT.2.2.2.1, hT.2.2.2.2⟩)
                | (have e := sp_tokAt_2 (tb := tb) hc115.1 (sp_isD_iff.mp hc115.2)
                   rw [e] at hT ⊢
                   exact ⟨q14, (qf y 13 (by omega)).trans h132, q12, q15, (fun z => by
                     have z2 : (if sp_end sp_isD tb n s - s ≤ 3 then 2 else 4) = 1 := z
                     split at z2 <;> omega), hT.1, hT.2.2.1, hT.2.2.2.1, hT.2.2.2.2⟩)
                | (have e := sp_tokAt_3 (tb := tb) (show s < n by omega) (fun z => hc97 ⟨by omega, sp_isA_iff.mpr z⟩) (fun z => hc115 ⟨by omega, sp_isD_iff.mpr z⟩)
                   rw [e] at hT ⊢
                   refine ⟨?_, ?_, by rw [am_up_eq, nI_add1], ?_, (fun z => ?_), hT.1, hT.2.2.1, hT.2.2.2.1, hT.2.2.2.2⟩
                   · first
                     | (rw [if_pos (show tb s = 59 by omega), am_up_n2 (by omega), am_up_eq]; done)
                     | (rw [if_neg (show ¬ tb s = 59 by omega), am_up_n2 (by omega), hI3, am_up_eq]; done)
                   · first
                     | (rw [am_up_n2 (by omega), am_up_n2 (by omega), hI3, am_up_n2 (by omega)]; exact h132)
                     | (rw [am_up_n2 (by omega), hI3, am_up_n2 (by omega)]; exact h132)
                   · first
                     | (rw [am_up_n2 (by omega), am_up_n2 (by omega), hI3, am_up_n2 (by omega)]; exact h152)
                     | (rw [am_up_n2 (by omega), hI3, am_up_n2 (by omega)]; exact h152)
                   · have z2 : (if tb s = 59 then 3 else 4) = 1 := z
                     split at z2 <;> omega)
              · intro b K hb
                first
                | exact (qf b K (by omega)).trans (hf2 b K hb)
                | (rw [am_up_n2 (by omega)]; exact hf2 b K hb)
                | (rw [am_up_n2 (by omega), am_up_n2 (by omega)]; exact hf3 b K hb)
                | (rw [am_up_n2 (by omega)]; exact hf3 b K hb)
              · first
                | exact hgJ.tr qg
                | exact hgJ⟩) dX6_next_159
        · skip
          refine k_aload_n C (f := 0) (i := 0) (p := 0) rfl rfl dX6_next_81 ?_
          refine k_iconst C ic_0 dX6_next_82 ?_
          refine k_putI C f_X6_164 (L6_s (by assumption)) rfl rfl dX6_next_83 ?_
          refine k_goto C (tgt := 159) (by decide) dX6_next_86 ?_
          exact k_vret C (Nat.le_of_ble_eq_true rfl) (Nat.le_of_ble_eq_true rfl) (⟨rfl, by
            refine ⟨rfl, ?_, ?_, ?_⟩
            · unfold sp_tok
              rw [hend]
              first
              | (have e := sp_tokAt_0 (tb := tb) (show n ≤ s by omega)
                 rw [e]
                 exact ⟨am_up_eq, by rw [am_up_n2 (by omega)]; exact h132, by rw [am_up_n2 (by omega)]; exact h122, by rw [am_up_n2 (by omega)]; exact h152, (fun z => by cases z), (by show (0:Nat) ≤ 4; omega), Nat.le_refl _, hs, (by show (0:Nat) ≤ 999; omega)⟩)
              | (have e := sp_tokAt_1 (tb := tb) hc97.1 (sp_isA_iff.mp hc97.2)
                 rw [e] at hT ⊢
                 exact ⟨q14, (qf y 13 (by omega)).trans h132, q12, (qf y 15 (by omega)).trans h152, (fun _ => ⟨qJ, fun j h1 h2 => sp_isA_iff.mp (sp_end_all hs j h1 h2)⟩), hT.1, hT.2.2.1, hT.2.2.2.1, hT.2.2.2.2⟩)
              | (have e := sp_tokAt_2 (tb := tb) hc115.1 (sp_isD_iff.mp hc115.2)
                 rw [e] at hT ⊢
                 exact ⟨q14, (qf y 13 (by omega)).trans h132, q12, q15, (fun z => by
                   have z2 : (if sp_end sp_isD tb n s - s ≤ 3 then 2 else 4) = 1 := z
                   split at z2 <;> omega), hT.1, hT.2.2.1, hT.2.2.2.1, hT.2.2.2.2⟩)
              | (have e := sp_tokAt_3 (tb := tb) (show s < n by omega) (fun z => hc97 ⟨by omega, sp_isA_iff.mpr z⟩) (fun z => hc115 ⟨by omega, sp_isD_iff.mpr z⟩)
                 rw [e] at hT ⊢
                 refine ⟨?_, ?_, by rw [am_up_eq, nI_add1], ?_, (fun z => ?_), hT.1, hT.2.2.1, hT.2.2.2.1, hT.2.2.2.2⟩
                 · first
                   | (rw [if_pos (show tb s = 59 by omega), am_up_n2 (by omega), am_up_eq]; done)
                   | (rw [if_neg (show ¬ tb s = 59 by omega), am_up_n2 (by omega), hI3, am_up_eq]; done)
                 · first
                   | (rw [am_up_n2 (by omega), am_up_n2 (by omega), hI3, am_up_n2 (by omega)]; exact h132)
                   | (rw [am_up_n2 (by omega), hI3, am_up_n2 (by omega)]; exact h132)
                 · first
                   | (rw [am_up_n2 (by omega), am_up_n2 (by omega), hI3, am_up_n2 (by omega)]; exact h152)
                   | (rw [am_up_n2 (by omega), hI3, am_up_n2 (by omega)]; exact h152)
                 · have z2 : (if tb s = 59 then 3 else 4) = 1 := z
                   split at z2 <;> omega)
            · intro b K hb
              first
              | exact (qf b K (by omega)).trans (hf2 b K hb)
              | (rw [am_up_n2 (by omega)]; exact hf2 b K hb)
              | (rw [am_up_n2 (by omega), am_up_n2 (by omega)]; exact hf3 b K hb)
              | (rw [am_up_n2 (by omega)]; exact hf3 b K hb)
            · first
              | exact hgJ.tr qg
              | exact hgJ⟩) dX6_next_159
      · skip
        have hb := (ht1.2.2 s (by omega)).2
        refine k_aload_n C (f := 0) (i := 0) (p := 0) rfl rfl dX6_next_11 ?_
        refine k_getR C f_X6_29 (L6_s (by assumption)) (fun _ _ _ => rfl) (L6_7 (by assumption)) dX6_next_12 ?_
        refine k_aload_n C (f := 0) (i := 0) (p := 0) rfl rfl dX6_next_15 ?_
        refine k_getI C f_X6_151 (L6_s (by assumption)) (fun _ _ _ => rfl) (h121) dX6_next_16 ?_
        refine k_iald C (A6_7 (by assumption)) (by first | rfl | assumption) (by omega) (by decide) ((ht1.2.2 s (by omega)).1) dX6_next_19 ?_
        refine k_bipush C bc_32 dX6_next_20 ?_
        first
        | refine k_icmpN_eq C (tgt := 39) (by omega) (by omega) (by decide) dX6_next_22 (fun hc22 => ?_) (fun hc22 => ?_)
        | refine k_icmp_eq C (tgt := 39) (by decide) dX6_next_22 (fun hc22 => ?_) (fun hc22 => ?_)
        · skip
          refine k_aload_n C (f := 0) (i := 0) (p := 0) rfl rfl dX6_next_39 ?_
          refine k_dup C rfl dX6_next_40 ?_
          refine k_getI C f_X6_151 (L6_s (by assumption)) (fun _ _ _ => rfl) (h121) dX6_next_41 ?_
          refine k_iconst C ic_1 dX6_next_44 ?_
          refine k_iadd C dX6_next_45 ?_
          refine k_putI C f_X6_151 (L6_s (by assumption)) rfl rfl dX6_next_46 ?_
          refine k_goto C (tgt := 0) (by decide) dX6_next_49 ?_
          refine k_sub [0] rfl ?_
          exact ih0 (s + 1) _ (by omega) (by rw [am_up_eq, nI_add1]) (hE.trans (sp_end_t ⟨by omega, sp_isS_iff.mpr (by omega)⟩)) (fun b K hb => by rw [am_up_n2 hb]; exact hg1 b K hb) (by omega)
        · skip
          refine k_aload_n C (f := 0) (i := 0) (p := 0) rfl rfl dX6_next_25 ?_
          refine k_getR C f_X6_29 (L6_s (by assumption)) (fun _ _ _ => rfl) (L6_7 (by assumption)) dX6_next_26 ?_
          refine k_aload_n C (f := 0) (i := 0) (p := 0) rfl rfl dX6_next_29 ?_
          refine k_getI C f_X6_151 (L6_s (by assumption)) (fun _ _ _ => rfl) (h121) dX6_next_30 ?_
          refine k_iald C (A6_7 (by assumption)) (by first | rfl | assumption) (by omega) (by decide) ((ht1.2.2 s (by omega)).1) dX6_next_33 ?_
          refine k_bipush C bc_10 dX6_next_34 ?_
          first
          | refine k_icmpN_ne C (tgt := 52) (by omega) (by omega) (by decide) dX6_next_36 (fun hc36 => ?_) (fun hc36 => ?_)
          | refine k_icmp_ne C (tgt := 52) (by decide) dX6_next_36 (fun hc36 => ?_) (fun hc36 => ?_)
          · skip
            refine k_aload_n C (f := 0) (i := 0) (p := 0) rfl rfl dX6_next_52 ?_
            refine k_aload_n C (f := 0) (i := 0) (p := 0) rfl rfl dX6_next_53 ?_
            refine k_getI C f_X6_151 (L6_s (by assumption)) (fun _ _ _ => rfl) (h121) dX6_next_54 ?_
            refine k_putI C f_X6_154 (L6_s (by assumption)) rfl rfl dX6_next_57 ?_
            refine k_aload_n C (f := 0) (i := 0) (p := 0) rfl rfl dX6_next_60 ?_
            refine k_iconst C ic_0 dX6_next_61 ?_
            refine k_putI C f_X6_157 (L6_s (by assumption)) rfl rfl dX6_next_62 ?_
            refine k_aload_n C (f := 0) (i := 0) (p := 0) rfl rfl dX6_next_65 ?_
            refine k_lconst C rfl dX6_next_66 ?_
            refine k_putJ C f_X6_160 (L6_s (by assumption)) rfl rfl dX6_next_67 ?_
            obtain ⟨I2, hI2⟩ : ∃ z : am_I, z = am_up (am_up I1 y 13 (nI s)) y 15 (nI 0) := ⟨_, rfl⟩
            rw [← hI2]
            obtain ⟨J2, hJ2⟩ : ∃ z : am_J, z = am_ul J y 16 (Int64.ofNat ((0 : Fin 2) : Nat)) := ⟨_, rfl⟩
            rw [← hJ2]
            have hgJ : JFr y J J2 := fun b hb => by rw [hJ2, am_ul_ne hb]
            have hJ0 : J2 y 16 = lN 0 := by rw [hJ2, am_ul_eq]; rfl
            have hf2 : TFr y I I2 := fun b K hb => by rw [hI2, am_up_n2 (by omega), am_up_n2 (by omega)]; exact hf1 b K hb
            have ht2 := hf2.mp.txt ht
            have t82 := ht2.1
            have h122 : I2 y 12 = nI s := by rw [hI2, am_up_n2 (by omega), am_up_n2 (by omega)]; exact h121
            have h132 : I2 y 13 = nI s := by rw [hI2, am_up_n2 (by omega), am_up_eq]
            have h152 : I2 y 15 = nI 0 := by rw [hI2, am_up_eq]
            clear hI2 hJ2
            have hend : sp_end sp_isS tb n k = s := by rw [hE, sp_end_f (fun z => by have := sp_isS_iff.mp z.2; omega)]
            have hT := sp_tokAt_b (tb := tb) (n := n) (show s ≤ n from hs)
            refine k_aload_n C (f := 0) (i := 0) (p := 0) rfl rfl dX6_next_70 ?_
            refine k_getI C f_X6_151 (L6_s (by assumption)) (fun _ _ _ => rfl) (h122) dX6_next_71 ?_
            refine k_aload_n C (f := 0) (i := 0) (p := 0) rfl rfl dX6_next_74 ?_
            refine k_getI C f_X6_144 (L6_s (by assumption)) (fun _ _ _ => rfl) (t82) dX6_next_75 ?_
            first
            | refine k_icmpN_ne C (tgt := 89) (by omega) (by omega) (by decide) dX6_next_78 (fun hc78 => ?_) (fun hc78 => ?_)
            | refine k_icmp_ne C (tgt := 89) (by decide) dX6_next_78 (fun hc78 => ?_) (fun hc78 => ?_)
            · skip
              refine k_aload_n C (f := 0) (i := 0) (p := 0) rfl rfl dX6_next_89 ?_
              refine k_aload_n C (f := 0) (i := 0) (p := 0) rfl rfl dX6_next_90 ?_
              refine k_getI C f_X6_151 (L6_s (by assumption)) (fun _ _ _ => rfl) (h122) dX6_next_91 ?_
              refine k_callVp C s_X6_167 h_X6_isSmall (L6_s (by assumption)) rfl (ct_X6_isSmall (k := s) hx ht2 (by omega)) rfl rfl (Nat.le_of_ble_eq_true rfl) ⟨Nat.le_of_ble_eq_true rfl, Nat.le_of_ble_eq_true rfl⟩ ⟨Nat.le_of_ble_eq_true rfl, Nat.le_of_ble_eq_true rfl⟩ ⟨rfl, rfl⟩ dX6_next_94 ?_
              refine k_ifb_eq C (tgt := 107) (by decide) dX6_next_97 (fun hc97 => ?_) (fun hc97 => ?_)
              · skip
                refine k_aload_n C (f := 0) (i := 0) (p := 0) rfl rfl dX6_next_107 ?_
                refine k_aload_n C (f := 0) (i := 0) (p := 0) rfl rfl dX6_next_108 ?_
                refine k_getI C f_X6_151 (L6_s (by assumption)) (fun _ _ _ => rfl) (h122) dX6_next_109 ?_
                refine k_callVp C s_X6_174 h_X6_isDigit (L6_s (by assumption)) rfl (ct_X6_isDigit (k := s) hx ht2 (by omega)) rfl rfl (Nat.le_of_ble_eq_true rfl) ⟨Nat.le_of_ble_eq_true rfl, Nat.le_of_ble_eq_true rfl⟩ ⟨Nat.le_of_ble_eq_true rfl, Nat.le_of_ble_eq_true rfl⟩ ⟨rfl, rfl⟩ dX6_next_112 ?_
                refine k_ifb_eq C (tgt := 125) (by decide) dX6_next_115 (fun hc115 => ?_) (fun hc115 => ?_)
                · skip
                  refine k_aload_n C (f := 0) (i := 0) (p := 0) rfl rfl dX6_next_125 ?_
                  refine k_iconst C ic_4 dX6_next_126 ?_
                  refine k_putI C f_X6_164 (L6_s (by assumption)) rfl rfl dX6_next_127 ?_
                  obtain ⟨I3, hI3⟩ : ∃ z : am_I, z = am_up I2 y 14 (nI 4) := ⟨_, rfl⟩
                  rw [← hI3]
                  have hf3 : TFr y I I3 := fun b K hb => by rw [hI3, am_up_n2 (by omega)]; exact hf2 b K hb
                  have ht3 := hf3.mp.txt ht
                  have h123 : I3 y 12 = nI s := by rw [hI3, am_up_n2 (by omega)]; exact h122
                  have hb3 := (ht3.2.2 s (by omega)).2
                  refine k_aload_n C (f := 0) (i := 0) (p := 0) rfl rfl dX6_next_130 ?_
                  refine k_getR C f_X6_29 (L6_s (by assumption)) (fun _ _ _ => rfl) (L6_7 (by assumption)) dX6_next_131 ?_
                  refine k_aload_n C (f := 0) (i := 0) (p := 0) rfl rfl dX6_next_134 ?_
                  refine k_getI C f_X6_151 (L6_s (by assumption)) (fun _ _ _ => rfl) (h123) dX6_next_135 ?_
                  refine k_iald C (A6_7 (by assumption)) (by first | rfl | assumption) (by omega) (by decide) ((ht3.2.2 s (by omega)).1) dX6_next_138 ?_
                  refine k_bipush C bc_59 dX6_next_139 ?_
                  first
                  | refine k_icmpN_ne C (tgt := 149) (by omega) (by omega) (by decide) dX6_next_141 (fun hc141 => ?_) (fun hc141 => ?_)
                  | refine k_icmp_ne C (tgt := 149) (by decide) dX6_next_141 (fun hc141 => ?_) (fun hc141 => ?_)
                  · skip
                    refine k_aload_n C (f := 0) (i := 0) (p := 0) rfl rfl dX6_next_149 ?_
                    refine k_dup C rfl dX6_next_150 ?_
                    refine k_getI C f_X6_151 (L6_s (by assumption)) (fun _ _ _ => rfl) (by first | exact h123 | exact Eq.trans (am_up_n2 (by omega)) h123) dX6_next_151 ?_
                    refine k_iconst C ic_1 dX6_next_154 ?_
                    refine k_iadd C dX6_next_155 ?_
                    refine k_putI C f_X6_151 (L6_s (by assumption)) rfl rfl dX6_next_156 ?_
                    exact k_vret C (Nat.le_of_ble_eq_true rfl) (Nat.le_of_ble_eq_true rfl) (⟨rfl, by
                      refine ⟨rfl, ?_, ?_, ?_⟩
                      · unfold sp_tok
                        rw [hend]
                        first
                        | (have e := sp_tokAt_0 (tb := tb) (show n ≤ s by omega)
                           rw [e]
                           exact ⟨am_up_eq, by rw [am_up_n2 (by omega)]; exact h132, by rw [am_up_n2 (by omega)]; exact h122, by rw [am_up_n2 (by omega)]; exact h152, (fun z => by cases z), (by show (0:Nat) ≤ 4; omega), Nat.le_refl _, hs, (by show (0:Nat) ≤ 999; omega)⟩)
                        | (have e := sp_tokAt_1 (tb := tb) hc97.1 (sp_isA_iff.mp hc97.2)
                           rw [e] at hT ⊢
                           exact ⟨q14, (qf y 13 (by omega)).trans h132, q12, (qf y 15 (by omega)).trans h152, (fun _ => ⟨qJ, fun j h1 h2 => sp_isA_iff.mp (sp_end_all hs j h1 h2)⟩), hT.1, hT.2.2.1, hT.2.2.2.1, hT.2.2.2.2⟩)
                        | (have e := sp_tokAt_2 (tb := tb) hc115.1 (sp_isD_iff.mp hc115.2)
                           rw [e] at hT ⊢
                           exact ⟨q14, (qf y 13 (by omega)).trans h132, q12, q15, (fun z => by
                             have z2 : (if sp_end sp_isD tb n s - s ≤ 3 then 2 else 4) = 1 := z
                             split at z2 <;> omega), hT.1, hT.2.2.1, hT.2.2.2.1, hT.2.2.2.2⟩)
                        | (have e := sp_tokAt_3 (tb := tb) (show s < n by omega) (fun z => hc97 ⟨by omega, sp_isA_iff.mpr z⟩) (fun z => hc115 ⟨by omega, sp_isD_iff.mpr z⟩)
                           rw [e] at hT ⊢
                           refine ⟨?_, ?_, by rw [am_up_eq, nI_add1], ?_, (fun z => ?_), hT.1, hT.2.2.1, hT.2.2.2.1, hT.2.2.2.2⟩
                           · first
                             | (rw [if_pos (show tb s = 59 by omega), am_up_n2 (by omega), am_up_eq]; done)
                             | (rw [if_neg (show ¬ tb s = 59 by omega), am_up_n2 (by omega), hI3, am_up_eq]; done)
                           · first
                             | (rw [am_up_n2 (by omega), am_up_n2 (by omega), hI3, am_up_n2 (by omega)]; exact h132)
                             | (rw [am_up_n2 (by omega), hI3, am_up_n2 (by omega)]; exact h132)
                           · first
                             | (rw [am_up_n2 (by omega), am_up_n2 (by omega), hI3, am_up_n2 (by omega)]; exact h152)
                             | (rw [am_up_n2 (by omega), hI3, am_up_n2 (by omega)]; exact h152)
                           · have z2 : (if tb s = 59 then 3 else 4) = 1 := z
                             split at z2 <;> omega)
                      · intro b K hb
                        first
                        | exact (qf b K (by omega)).trans (hf2 b K hb)
                        | (rw [am_up_n2 (by omega)]; exact hf2 b K hb)
                        | (rw [am_up_n2 (by omega), am_up_n2 (by omega)]; exact hf3 b K hb)
                        | (rw [am_up_n2 (by omega)]; exact hf3 b K hb)
                      · first
                        | exact hgJ.tr qg
                        | exact hgJ⟩) dX6_next_159
                  · skip
                    refine k_aload_n C (f := 0) (i := 0) (p := 0) rfl rfl dX6_next_144 ?_
                    refine k_iconst C ic_3 dX6_next_145 ?_
                    refine k_putI C f_X6_164 (L6_s (by assumption)) rfl rfl dX6_next_146 ?_
                    refine k_aload_n C (f := 0) (i := 0) (p := 0) rfl rfl dX6_next_149 ?_
                    refine k_dup C rfl dX6_next_150 ?_
                    refine k_getI C f_X6_151 (L6_s (by assumption)) (fun _ _ _ => rfl) (by first | exact h123 | exact Eq.trans (am_up_n2 (by omega)) h123) dX6_next_151 ?_
                    refine k_iconst C ic_1 dX6_next_154 ?_
                    refine k_iadd C dX6_next_155 ?_
                    refine k_putI C f_X6_151 (L6_s (by assumption)) rfl rfl dX6_next_156 ?_
                    exact k_vret C (Nat.le_of_ble_eq_true rfl) (Nat.le_of_ble_eq_true rfl) (⟨rfl, by
                      refine ⟨rfl, ?_, ?_, ?_⟩
                      · unfold sp_tok
                        rw [hend]
                        first
                        | (have e := sp_tokAt_0 (tb := tb) (show n ≤ s by omega)
                           rw [e]
                           exact ⟨am_up_eq, by rw [am_up_n2 (by omega)]; exact h132, by rw [am_up_n2 (by omega)]; exact h122, by rw [am_up_n2 (by omega)]; exact h152, (fun z => by cases z), (by show (0:Nat) ≤ 4; omega), Nat.le_refl _, hs, (by show (0:Nat) ≤ 999; omega)⟩)
                        | (have e := sp_tokAt_1 (tb := tb) hc97.1 (sp_isA_iff.mp hc97.2)
                           rw [e] at hT ⊢
                           exact ⟨q14, (qf y 13 (by omega)).trans h132, q12, (qf y 15 (by omega)).trans h152, (fun _ => ⟨qJ, fun j h1 h2 => sp_isA_iff.mp (sp_end_all hs j h1 h2)⟩), hT.1, hT.2.2.1, hT.2.2.2.1, hT.2.2.2.2⟩)
                        | (have e := sp_tokAt_2 (tb := tb) hc115.1 (sp_isD_iff.mp hc115.2)
                           rw [e] at hT ⊢
                           exact ⟨q14, (qf y 13 (by omega)).trans h132, q12, q15, (fun z => by
                             have z2 : (if sp_end sp_isD tb n s - s ≤ 3 then 2 else 4) = 1 := z
                             split at z2 <;> omega), hT.1, hT.2.2.1, hT.2.2.2.1, hT.2.2.2.2⟩)
                        | (have e := sp_tokAt_3 (tb := tb) (show s < n by omega) (fun z => hc97 ⟨by omega, sp_isA_iff.mpr z⟩) (fun z => hc115 ⟨by omega, sp_isD_iff.mpr z⟩)
                           rw [e] at hT ⊢
                           refine ⟨?_, ?_, by rw [am_up_eq, nI_add1], ?_, (fun z => ?_), hT.1, hT.2.2.1, hT.2.2.2.1, hT.2.2.2.2⟩
                           · first
                             | (rw [if_pos (show tb s = 59 by omega), am_up_n2 (by omega), am_up_eq]; done)
                             | (rw [if_neg (show ¬ tb s = 59 by omega), am_up_n2 (by omega), hI3, am_up_eq]; done)
                           · first
                             | (rw [am_up_n2 (by omega), am_up_n2 (by omega), hI3, am_up_n2 (by omega)]; exact h132)
                             | (rw [am_up_n2 (by omega), hI3, am_up_n2 (by omega)]; exact h132)
                           · first
                             | (rw [am_up_n2 (by omega), am_up_n2 (by omega), hI3, am_up_n2 (by omega)]; exact h152)
                             | (rw [am_up_n2 (by omega), hI3, am_up_n2 (by omega)]; exact h152)
                           · have z2 : (if tb s = 59 then 3 else 4) = 1 := z
                             split at z2 <;> omega)
                      · intro b K hb
                        first
                        | exact (qf b K (by omega)).trans (hf2 b K hb)
                        | (rw [am_up_n2 (by omega)]; exact hf2 b K hb)
                        | (rw [am_up_n2 (by omega), am_up_n2 (by omega)]; exact hf3 b K hb)
                        | (rw [am_up_n2 (by omega)]; exact hf3 b K hb)
                      · first
                        | exact hgJ.tr qg
                        | exact hgJ⟩) dX6_next_159
                · skip
                  refine k_aload_n C (f := 0) (i := 0) (p := 0) rfl rfl dX6_next_118 ?_
                  refine k_callVg C s_X6_177 h_X6_nextNumber (L6_s (by assumption)) rfl (ct_X6_nextNumber (st := s) hx ht2 hs h122 h132 h152) rfl rfl (Nat.le_of_ble_eq_true rfl) ⟨Nat.le_of_ble_eq_true rfl, Nat.le_of_ble_eq_true rfl⟩ ⟨Nat.le_of_ble_eq_true rfl, Nat.le_of_ble_eq_true rfl⟩ ⟨rfl, rfl⟩ dX6_next_119 ?_
                  intro v I4 hv
                  obtain ⟨rfl, q12, q14, q15, qf⟩ := hv
                  refine k_goto C (tgt := 159) (by decide) dX6_next_122 ?_
                  exact k_vret C (Nat.le_of_ble_eq_true rfl) (Nat.le_of_ble_eq_true rfl) (⟨rfl, by
                    refine ⟨rfl, ?_, ?_, ?_⟩
                    · unfold sp_tok
                      rw [hend]
                      first
                      | (have e := sp_tokAt_0 (tb := tb) (show n ≤ s by omega)
                         rw [e]
                         exact ⟨am_up_eq, by rw [am_up_n2 (by omega)]; exact h132, by rw [am_up_n2 (by omega)]; exact h122, by rw [am_up_n2 (by omega)]; exact h152, (fun z => by cases z), (by show (0:Nat) ≤ 4; omega), Nat.le_refl _, hs, (by show (0:Nat) ≤ 999; omega)⟩)
                      | (have e := sp_tokAt_1 (tb := tb) hc97.1 (sp_isA_iff.mp hc97.2)
                         rw [e] at hT ⊢
                         exact ⟨q14, (qf y 13 (by omega)).trans h132, q12, (qf y 15 (by omega)).trans h152, (fun _ => ⟨qJ, fun j h1 h2 => sp_isA_iff.mp (sp_end_all hs j h1 h2)⟩), hT.1, hT.2.2.1, hT.2.2.2.1, hT.2.2.2.2⟩)
                      | (have e := sp_tokAt_2 (tb := tb) hc115.1 (sp_isD_iff.mp hc115.2)
                         rw [e] at hT ⊢
                         exact ⟨q14, (qf y 13 (by omega)).trans h132, q12, q15, (fun z => by
                           have z2 : (if sp_end sp_isD tb n s - s ≤ 3 then 2 else 4) = 1 := z
                           split at z2 <;> omega), hT.1, hT.2.2.1, hT.2.2.2.1, hT.2.2.2.2⟩)
                      | (have e := sp_tokAt_3 (tb := tb) (show s < n by omega) (fun z => hc97 ⟨by omega, sp_isA_iff.mpr z⟩) (fun z => hc115 ⟨by omega, sp_isD_iff.mpr z⟩)
                         rw [e] at hT ⊢
                         refine ⟨?_, ?_, by rw [am_up_eq, nI_add1], ?_, (fun z => ?_), hT.1, hT.2.2.1, hT.2.2.2.1, hT.2.2.2.2⟩
                         · first
                           | (rw [if_pos (show tb s = 59 by omega), am_up_n2 (by omega), am_up_eq]; done)
                           | (rw [if_neg (show ¬ tb s = 59 by omega), am_up_n2 (by omega), hI3, am_up_eq]; done)
                         · first
                           | (rw [am_up_n2 (by omega), am_up_n2 (by omega), hI3, am_up_n2 (by omega)]; exact h132)
                           | (rw [am_up_n2 (by omega), hI3, am_up_n2 (by omega)]; exact h132)
                         · first
                           | (rw [am_up_n2 (by omega), am_up_n2 (by omega), hI3, am_up_n2 (by omega)]; exact h152)
                           | (rw [am_up_n2 (by omega), hI3, am_up_n2 (by omega)]; exact h152)
                         · have z2 : (if tb s = 59 then 3 else 4) = 1 := z
                           split at z2 <;> omega)
                    · intro b K hb
                      first
                      | exact (qf b K (by omega)).trans (hf2 b K hb)
                      | (rw [am_up_n2 (by omega)]; exact hf2 b K hb)
                      | (rw [am_up_n2 (by omega), am_up_n2 (by omega)]; exact hf3 b K hb)
                      | (rw [am_up_n2 (by omega)]; exact hf3 b K hb)
                    · first
                      | exact hgJ.tr qg
                      | exact hgJ⟩) dX6_next_159
              · skip
                refine k_aload_n C (f := 0) (i := 0) (p := 0) rfl rfl dX6_next_100 ?_
                refine k_callVj C s_X6_171 h_X6_nextWord (L6_s (by assumption)) rfl (ct_X6_nextWord (st := s) hx ht2 hs h122 h132 hJ0) rfl rfl (Nat.le_of_ble_eq_true rfl) ⟨Nat.le_of_ble_eq_true rfl, Nat.le_of_ble_eq_true rfl⟩ ⟨Nat.le_of_ble_eq_true rfl, Nat.le_of_ble_eq_true rfl⟩ ⟨rfl, rfl⟩ dX6_next_101 ?_
                intro v I4 J4 hv
                obtain ⟨rfl, q12, q14, qJ, qf, qg⟩ := hv
                refine k_goto C (tgt := 159) (by decide) dX6_next_104 ?_
                exact k_vret C (Nat.le_of_ble_eq_true rfl) (Nat.le_of_ble_eq_true rfl) (⟨rfl, by
                  refine ⟨rfl, ?_, ?_, ?_⟩
                  · unfold sp_tok
                    rw [hend]
                    first
                    | (have e := sp_tokAt_0 (tb := tb) (show n ≤ s by omega)
                       rw [e]
                       exact ⟨am_up_eq, by rw [am_up_n2 (by omega)]; exact h132, by rw [am_up_n2 (by omega)]; exact h122, by rw [am_up_n2 (by omega)]; exact h152, (fun z => by cases z), (by show (0:Nat) ≤ 4; omega), Nat.le_refl _, hs, (by show (0:Nat) ≤ 999; omega)⟩)
                    | (have e := sp_tokAt_1 (tb := tb) hc97.1 (sp_isA_iff.mp hc97.2)
                       rw [e] at hT ⊢
                       exact ⟨q14, (qf y 13 (by omega)).trans h132, q12, (qf y 15 (by omega)).trans h152, (fun _ => ⟨qJ, fun j h1 h2 => sp_isA_iff.mp (sp_end_all hs j h1 h2)⟩), hT.1, hT.2.2.1, hT.2.2.2.1, hT.2.2.2.2⟩)
                    | (have e := sp_tokAt_2 (tb := tb) hc115.1 (sp_isD_iff.mp hc115.2)
                       rw [e] at hT ⊢
                       exact ⟨q14, (qf y 13 (by omega)).trans h132, q12, q15, (fun z => by
                         have z2 : (if sp_end sp_isD tb n s - s ≤ 3 then 2 else 4) = 1 := z
                         split at z2 <;> omega), hT.1, hT.2.2.1, hT.2.2.2.1, hT.2.2.2.2⟩)
                    | (have e := sp_tokAt_3 (tb := tb) (show s < n by omega) (fun z => hc97 ⟨by omega, sp_isA_iff.mpr z⟩) (fun z => hc115 ⟨by omega, sp_isD_iff.mpr z⟩)
                       rw [e] at hT ⊢
                       refine ⟨?_, ?_, by rw [am_up_eq, nI_add1], ?_, (fun z => ?_), hT.1, hT.2.2.1, hT.2.2.2.1, hT.2.2.2.2⟩
                       · first
                         | (rw [if_pos (show tb s = 59 by omega), am_up_n2 (by omega), am_up_eq]; done)
                         | (rw [if_neg (show ¬ tb s = 59 by omega), am_up_n2 (by omega), hI3, am_up_eq]; done)
                       · first
                         | (rw [am_up_n2 (by omega), am_up_n2 (by omega), hI3, am_up_n2 (by omega)]; exact h132)
                         | (rw [am_up_n2 (by omega), hI3, am_up_n2 (by omega)]; exact h132)
                       · first
                         | (rw [am_up_n2 (by omega), am_up_n2 (by omega), hI3, am_up_n2 (by omega)]; exact h152)
                         | (rw [am_up_n2 (by omega), hI3, am_up_n2 (by omega)]; exact h152)
                       · have z2 : (if tb s = 59 then 3 else 4) = 1 := z
                         split at z2 <;> omega)
                  · intro b K hb
                    first
                    | exact (qf b K (by omega)).trans (hf2 b K hb)
                    | (rw [am_up_n2 (by omega)]; exact hf2 b K hb)
                    | (rw [am_up_n2 (by omega), am_up_n2 (by omega)]; exact hf3 b K hb)
                    | (rw [am_up_n2 (by omega)]; exact hf3 b K hb)
                  · first
                    | exact hgJ.tr qg
                    | exact hgJ⟩) dX6_next_159
            · skip
              refine k_aload_n C (f := 0) (i := 0) (p := 0) rfl rfl dX6_next_81 ?_
              refine k_iconst C ic_0 dX6_next_82 ?_
              refine k_putI C f_X6_164 (L6_s (by assumption)) rfl rfl dX6_next_83 ?_
              refine k_goto C (tgt := 159) (by decide) dX6_next_86 ?_
              exact k_vret C (Nat.le_of_ble_eq_true rfl) (Nat.le_of_ble_eq_true rfl) (⟨rfl, by
                refine ⟨rfl, ?_, ?_, ?_⟩
                · unfold sp_tok
                  rw [hend]
                  first
                  | (have e := sp_tokAt_0 (tb := tb) (show n ≤ s by omega)
                     rw [e]
                     exact ⟨am_up_eq, by rw [am_up_n2 (by omega)]; exact h132, by rw [am_up_n2 (by omega)]; exact h122, by rw [am_up_n2 (by omega)]; exact h152, (fun z => by cases z), (by show (0:Nat) ≤ 4; omega), Nat.le_refl _, hs, (by show (0:Nat) ≤ 999; omega)⟩)
                  | (have e := sp_tokAt_1 (tb := tb) hc97.1 (sp_isA_iff.mp hc97.2)
                     rw [e] at hT ⊢
                     exact ⟨q14, (qf y 13 (by omega)).trans h132, q12, (qf y 15 (by omega)).trans h152, (fun _ => ⟨qJ, fun j h1 h2 => sp_isA_iff.mp (sp_end_all hs j h1 h2)⟩), hT.1, hT.2.2.1, hT.2.2.2.1, hT.2.2.2.2⟩)
                  | (have e := sp_tokAt_2 (tb := tb) hc115.1 (sp_isD_iff.mp hc115.2)
                     rw [e] at hT ⊢
                     exact ⟨q14, (qf y 13 (by omega)).trans h132, q12, q15, (fun z => by
                       have z2 : (if sp_end sp_isD tb n s - s ≤ 3 then 2 else 4) = 1 := z
                       split at z2 <;> omega), hT.1, hT.2.2.1, hT.2.2.2.1, hT.2.2.2.2⟩)
                  | (have e := sp_tokAt_3 (tb := tb) (show s < n by omega) (fun z => hc97 ⟨by omega, sp_isA_iff.mpr z⟩) (fun z => hc115 ⟨by omega, sp_isD_iff.mpr z⟩)
                     rw [e] at hT ⊢
                     refine ⟨?_, ?_, by rw [am_up_eq, nI_add1], ?_, (fun z => ?_), hT.1, hT.2.2.1, hT.2.2.2.1, hT.2.2.2.2⟩
                     · first
                       | (rw [if_pos (show tb s = 59 by omega), am_up_n2 (by omega), am_up_eq]; done)
                       | (rw [if_neg (show ¬ tb s = 59 by omega), am_up_n2 (by omega), hI3, am_up_eq]; done)
                     · first
                       | (rw [am_up_n2 (by omega), am_up_n2 (by omega), hI3, am_up_n2 (by omega)]; exact h132)
                       | (rw [am_up_n2 (by omega), hI3, am_up_n2 (by omega)]; exact h132)
                     · first
                       | (rw [am_up_n2 (by omega), am_up_n2 (by omega), hI3, am_up_n2 (by omega)]; exact h152)
                       | (rw [am_up_n2 (by omega), hI3, am_up_n2 (by omega)]; exact h152)
                     · have z2 : (if tb s = 59 then 3 else 4) = 1 := z
                       split at z2 <;> omega)
                · intro b K hb
                  first
                  | exact (qf b K (by omega)).trans (hf2 b K hb)
                  | (rw [am_up_n2 (by omega)]; exact hf2 b K hb)
                  | (rw [am_up_n2 (by omega), am_up_n2 (by omega)]; exact hf3 b K hb)
                  | (rw [am_up_n2 (by omega)]; exact hf3 b K hb)
                · first
                  | exact hgJ.tr qg
                  | exact hgJ⟩) dX6_next_159
          · skip
            refine k_aload_n C (f := 0) (i := 0) (p := 0) rfl rfl dX6_next_39 ?_
            refine k_dup C rfl dX6_next_40 ?_
            refine k_getI C f_X6_151 (L6_s (by assumption)) (fun _ _ _ => rfl) (h121) dX6_next_41 ?_
            refine k_iconst C ic_1 dX6_next_44 ?_
            refine k_iadd C dX6_next_45 ?_
            refine k_putI C f_X6_151 (L6_s (by assumption)) rfl rfl dX6_next_46 ?_
            refine k_goto C (tgt := 0) (by decide) dX6_next_49 ?_
            refine k_sub [0] rfl ?_
            exact ih0 (s + 1) _ (by omega) (by rw [am_up_eq, nI_add1]) (hE.trans (sp_end_t ⟨by omega, sp_isS_iff.mpr (by omega)⟩)) (fun b K hb => by rw [am_up_n2 hb]; exact hg1 b K hb) (by omega)
  refine k_sub [0] rfl ?_
  exact loop0 (n + 1) k I hk h12 rfl (fun _ _ _ => rfl) (by omega)
