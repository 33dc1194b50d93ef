
/-! ===== quotients of small whole numbers are numbers ===== -/
def fp_num (f : FP.Core.Fmt) (d : FP.Core.Datum) : Prop := (∃ s : Bool, d = .inf s) ∨ ∃ (s : Bool) (c : Nat) (q : Int), d = .fin s c q ∧ c < 2 ^ f.p ∧ q ≤ f.qmax
theorem fp_bound {f : FP.Core.Fmt} {s : Bool} {c : Nat} {q : Int} (h : c < 2 ^ f.p) : fp_num f (FP.Core.bound f s c q) := by
  unfold FP.Core.bound
  split
  · exact Or.inr ⟨s, c, q, rfl, h, by assumption⟩
  · exact Or.inl ⟨s, rfl⟩
theorem fp_ratio {f : FP.Core.Fmt} (hp : f.tails < 2 ^ f.p) (hq : f.qmin ≤ f.qmax) (s : Bool) (A B : Nat) (e : Int) : fp_num f (FP.Core.roundRatio f s A B e) := by
  unfold FP.Core.roundRatio
  split
  · exact Or.inr ⟨s, 0, f.qmin, rfl, Nat.pos_of_ne_zero (fun z => by omega), hq⟩
  · unfold FP.Core.roundAt FP.Core.settle
    split
    · exact fp_bound (by assumption)
    · exact fp_bound hp
theorem fp_enc64 {d : FP.Core.Datum} (h : fp_num FP.Core.b64 d) : FP.Core.encode FP.Core.b64 d % 2 ^ 63 ≤ 0x7ff0000000000000 ∧ FP.Core.encode FP.Core.b64 d < 2 ^ 64 := by
  have hs : ∀ s : Bool, s.toNat ≤ 1 := fun s => by cases s <;> decide
  rcases h with ⟨s, rfl⟩ | ⟨s, c, q, rfl, hc, hq⟩
  · cases s <;> decide
  · have hc2 : c < 9007199254740992 := hc
    have hq2 : q ≤ 971 := hq
    have h1 := hs s
    show (if c < 4503599627370496 then FP.Core.assemble FP.Core.b64 s 0 c else FP.Core.assemble FP.Core.b64 s ((q - (-1074)).toNat + 1) (c - 4503599627370496)) % 2 ^ 63 ≤ _ ∧ (if c < 4503599627370496 then FP.Core.assemble FP.Core.b64 s 0 c else FP.Core.assemble FP.Core.b64 s ((q - (-1074)).toNat + 1) (c - 4503599627370496)) < 2 ^ 64
    have ha : ∀ e t : Nat, FP.Core.assemble FP.Core.b64 s e t = (s.toNat * 2048 + e) * 4503599627370496 + t := fun e t => rfl
    rw [ha, ha]
    split <;> omega
theorem fp_enc32 {d : FP.Core.Datum} (h : fp_num FP.Core.b32 d) : FP.Core.encode FP.Core.b32 d % 2 ^ 31 ≤ 0x7f800000 ∧ FP.Core.encode FP.Core.b32 d < 2 ^ 32 := by
  have hs : ∀ s : Bool, s.toNat ≤ 1 := fun s => by cases s <;> decide
  rcases h with ⟨s, rfl⟩ | ⟨s, c, q, rfl, hc, hq⟩
  · cases s <;> decide
  · have hc2 : c < 16777216 := hc
    have hq2 : q ≤ 104 := hq
    have h1 := hs s
    show (if c < 8388608 then FP.Core.assemble FP.Core.b32 s 0 c else FP.Core.assemble FP.Core.b32 s ((q - (-149)).toNat + 1) (c - 8388608)) % 2 ^ 31 ≤ _ ∧ (if c < 8388608 then FP.Core.assemble FP.Core.b32 s 0 c else FP.Core.assemble FP.Core.b32 s ((q - (-149)).toNat + 1) (c - 8388608)) < 2 ^ 32
    have ha : ∀ e t : Nat, FP.Core.assemble FP.Core.b32 s e t = (s.toNat * 256 + e) * 8388608 + t := fun e t => rfl
    rw [ha, ha]
    split <;> omega
theorem fp_n64 {n : Nat} (h : n % 2 ^ 63 ≤ 0x7ff0000000000000) (h2 : n < 2 ^ 64) : vf_n64 (UInt64.ofNat n) := by
  unfold vf_n64
  rw [UInt64.le_iff_toNat_le, UInt64.toNat_and, show (UInt64.ofNat n).toNat = n from by simp [UInt64.toNat_ofNat]; omega]
  show n &&& (2 ^ 63 - 1) ≤ _
  rw [Nat.and_two_pow_sub_one_eq_mod]
  exact h
theorem fp_n32 {n : Nat} (h : n % 2 ^ 31 ≤ 0x7f800000) (h2 : n < 2 ^ 32) : vf_n32 (UInt32.ofNat n) := by
  unfold vf_n32
  rw [UInt32.le_iff_toNat_le, UInt32.toNat_and, show (UInt32.ofNat n).toNat = n from by simp [UInt32.toNat_ofNat]; omega]
  show n &&& (2 ^ 31 - 1) ≤ _
  rw [Nat.and_two_pow_sub_one_eq_mod]
  exact h
def fp_fin (d : FP.Core.Datum) (z : Bool) : Bool := match d with
  | .fin _ c _ => (c == 0) == z
  | _ => false
theorem fp_i64 : ∀ m : Fin 1001, fp_fin (FP.Core.decode FP.Core.b64 (FP.i2d (nI m.val)).toNat) (m.val == 0) = true := by decide +kernel
theorem fp_i32 : ∀ m : Fin 1001, fp_fin (FP.Core.decode FP.Core.b32 (FP.i2f (nI m.val)).toNat) (m.val == 0) = true := by decide +kernel
theorem fp_fin_inv {d : FP.Core.Datum} {z : Bool} (h : fp_fin d z = true) : ∃ (s : Bool) (c : Nat) (q : Int), d = .fin s c q ∧ ((c == 0) = z) := by
  cases d with
  | nan => cases h
  | inf s => cases h
  | fin s c q => exact ⟨s, c, q, rfl, by simpa [fp_fin] using h⟩
theorem fp_ddiv {a b : Nat} (ha : a ≤ 1000) (hb : b ≤ 1000) (h0 : 0 < b) : vf_n64 (FP.ddiv (FP.i2d (nI a)) (FP.i2d (nI b))) := by
  obtain ⟨s, c, q, e1, -⟩ := fp_fin_inv (fp_i64 ⟨a, by omega⟩)
  obtain ⟨t, d, r, e2, z2⟩ := fp_fin_inv (fp_i64 ⟨b, by omega⟩)
  have hd : ¬ d = 0 := fun z => by
    subst z
    have z3 : (b == 0) = true := z2.symm
    have := beq_iff_eq.mp z3
    omega
  have hq : FP.Core.quotient FP.Core.b64 (FP.Core.decode FP.Core.b64 (FP.i2d (nI a)).toNat) (FP.Core.decode FP.Core.b64 (FP.i2d (nI b)).toNat) = FP.Core.roundRatio FP.Core.b64 (s != t) c d (q - r) := by
    rw [e1, e2]
    exact if_neg hd
  have hn : fp_num FP.Core.b64 (FP.Core.quotient FP.Core.b64 (FP.Core.decode FP.Core.b64 (FP.i2d (nI a)).toNat) (FP.Core.decode FP.Core.b64 (FP.i2d (nI b)).toNat)) := by
    rw [hq]
    exact fp_ratio (by decide) (by decide) _ _ _ _
  have h := fp_enc64 hn
  exact fp_n64 h.1 h.2
theorem fp_fdiv {a b : Nat} (ha : a ≤ 1000) (hb : b ≤ 1000) (h0 : 0 < b) : vf_n32 (FP.fdiv (FP.i2f (nI a)) (FP.i2f (nI b))) ∧ (FP.fdiv (FP.i2f (nI a)) (FP.i2f (nI b))).toNat % 2 ^ 31 ≤ 0x7f800000 := by
  obtain ⟨s, c, q, e1, -⟩ := fp_fin_inv (fp_i32 ⟨a, by omega⟩)
  obtain ⟨t, d, r, e2, z2⟩ := fp_fin_inv (fp_i32 ⟨b, by omega⟩)
  have hd : ¬ d = 0 := fun z => by
    subst z
    have z3 : (b == 0) = true := z2.symm
    have := beq_iff_eq.mp z3
    omega
  have hn : fp_num FP.Core.b32 (FP.Core.quotient FP.Core.b32 (FP.Core.decode FP.Core.b32 (FP.i2f (nI a)).toNat) (FP.Core.decode FP.Core.b32 (FP.i2f (nI b)).toNat)) := by
    have hq : FP.Core.quotient FP.Core.b32 (FP.Core.decode FP.Core.b32 (FP.i2f (nI a)).toNat) (FP.Core.decode FP.Core.b32 (FP.i2f (nI b)).toNat) = FP.Core.roundRatio FP.Core.b32 (s != t) c d (q - r) := by
      rw [e1, e2]
      exact if_neg hd
    rw [hq]
    exact fp_ratio (by decide) (by decide) _ _ _ _
  have h := fp_enc32 hn
  refine ⟨fp_n32 h.1 h.2, ?_⟩
  have e : ∀ n : Nat, n < 2 ^ 32 → (UInt32.ofNat n).toNat = n := fun n hn => by simp [UInt32.toNat_ofNat]; omega
  show (UInt32.ofNat (FP.Core.encode FP.Core.b32 _)).toNat % 2 ^ 31 ≤ _
  rw [e _ h.2]
  exact h.1
theorem fp_dec32 {n : Nat} (h : n % 2 ^ 31 ≤ 0x7f800000) : FP.Core.decode FP.Core.b32 n ≠ .nan := by
  unfold FP.Core.decode
  by_cases h1 : FP.Core.fieldE FP.Core.b32 n = FP.Core.b32.exps - 1
  · rw [if_pos h1]
    have h2 : n / 8388608 % 256 = 255 := h1
    have h3 : FP.Core.fieldT FP.Core.b32 n = 0 := by
      show n % 8388608 = 0
      omega
    rw [if_pos h3]
    intro z; cases z
  · rw [if_neg h1]
    split <;> (intro z; cases z)
theorem fp_f2d {x : UInt32} (h : x.toNat % 2 ^ 31 ≤ 0x7f800000) : vf_n64 (FP.f2d x) := by
  have hd := fp_dec32 h
  have h1 : FP.Core.fIsNaN x = false := by
    unfold FP.Core.fIsNaN FP.Core.isNaN
    exact decide_eq_false hd
  have h2 : FP.f2d x = FP.Core.f2d x := by
    unfold FP.f2d
    rw [h1]
    rfl
  rw [h2]
  have hn : fp_num FP.Core.b64 (FP.Core.round FP.Core.b64 (FP.Core.decode FP.Core.b32 x.toNat)) := by
    cases e : FP.Core.decode FP.Core.b32 x.toNat with
    | nan => exact absurd e hd
    | inf s => exact Or.inl ⟨s, rfl⟩
    | fin s c q => exact fp_ratio (by decide) (by decide) _ _ _ _
  have hh := fp_enc64 hn
  exact fp_n64 hh.1 hh.2
