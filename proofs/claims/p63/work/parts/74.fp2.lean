/-! ===== a quotient compared with itself ===== -/
theorem fp_order {d : FP.Core.Datum} (h : d ≠ .nan) : FP.Core.order d d = some .eq := by
  have e : ∀ a : Int, compare a a = .eq := fun a => by simp [compare, compareOfLessAndEq]
  cases d with
  | nan => exact absurd rfl h
  | inf s => exact congrArg some (e _)
  | fin s c q => exact congrArg some (e _)
theorem fp_dec64 {n : Nat} (h : n % 2 ^ 63 ≤ 0x7ff0000000000000) : FP.Core.decode FP.Core.b64 n ≠ .nan := by
  unfold FP.Core.decode
  by_cases h1 : FP.Core.fieldE FP.Core.b64 n = FP.Core.b64.exps - 1
  · rw [if_pos h1]
    have h2 : n / 4503599627370496 % 2048 = 2047 := h1
    have h3 : FP.Core.fieldT FP.Core.b64 n = 0 := by
      show n % 4503599627370496 = 0
      omega
    rw [if_pos h3]
    intro z; cases z
  · rw [if_neg h1]
    split <;> (intro z; cases z)
theorem fp_ddivN {a b : Nat} (ha : a ≤ 1000) (hb : b ≤ 1000) (h0 : 0 < b) : (FP.ddiv (FP.i2d (nI a)) (FP.i2d (nI b))).toNat % 2 ^ 63 ≤ 0x7ff0000000000000 := by
  obtain ⟨s, c, q, e1, -⟩ := fp_fin_inv (fp_i64 ⟨a, by omega⟩)
  obtain ⟨t, d, r, e2, z2⟩ := fp_fin_inv (fp_i64 ⟨b, by omega⟩)
  have hd : ¬ d = 0 := fun z => by
    subst z
    have z3 : (b == 0) = true := z2.symm
    have := beq_iff_eq.mp z3
    omega
  have hn : fp_num FP.Core.b64 (FP.Core.quotient FP.Core.b64 (FP.Core.decode FP.Core.b64 (FP.i2d (nI a)).toNat) (FP.Core.decode FP.Core.b64 (FP.i2d (nI b)).toNat)) := by
    have hq : FP.Core.quotient FP.Core.b64 (FP.Core.decode FP.Core.b64 (FP.i2d (nI a)).toNat) (FP.Core.decode FP.Core.b64 (FP.i2d (nI b)).toNat) = FP.Core.roundRatio FP.Core.b64 (s != t) c d (q - r) := by
      rw [e1, e2]
      exact if_neg hd
    rw [hq]
    exact fp_ratio (by decide) (by decide) _ _ _ _
  have h := fp_enc64 hn
  have e : ∀ n : Nat, n < 2 ^ 64 → (UInt64.ofNat n).toNat = n := fun n hn => by simp [UInt64.toNat_ofNat]; omega
  show (UInt64.ofNat (FP.Core.encode FP.Core.b64 _)).toNat % 2 ^ 63 ≤ _
  rw [e _ h.2]
  exact h.1
theorem fp_dcmp {a b : Nat} (ha : a ≤ 1000) (hb : b ≤ 1000) (h0 : 0 < b) {op : CmpOp} : Op.cmpValue (FP.dcmp (FP.ddiv (FP.i2d (nI a)) (FP.i2d (nI b))) (FP.ddiv (FP.i2d (nI a)) (FP.i2d (nI b)))) op = nI 0 := by
  have h : FP.dcmp (FP.ddiv (FP.i2d (nI a)) (FP.i2d (nI b))) (FP.ddiv (FP.i2d (nI a)) (FP.i2d (nI b))) = some .eq := fp_order (fp_dec64 (fp_ddivN ha hb h0))
  rw [h]
  rfl
theorem fp_dcmp0 {op : CmpOp} : Op.cmpValue (FP.dcmp FP.dconst0 FP.dconst0) op = nI 0 := by
  have h : FP.dcmp FP.dconst0 FP.dconst0 = some .eq := by decide +kernel
  rw [h]
  rfl
theorem fp_fcmp {a b : Nat} (ha : a ≤ 1000) (hb : b ≤ 1000) (h0 : 0 < b) {op : CmpOp} : Op.cmpValue (FP.fcmp (FP.fdiv (FP.i2f (nI a)) (FP.i2f (nI b))) (FP.fdiv (FP.i2f (nI a)) (FP.i2f (nI b)))) op = nI 0 := by
  have h : FP.fcmp (FP.fdiv (FP.i2f (nI a)) (FP.i2f (nI b))) (FP.fdiv (FP.i2f (nI a)) (FP.i2f (nI b))) = some .eq := fp_order (fp_dec32 (fp_fdiv ha hb h0).2)
  rw [h]
  rfl
