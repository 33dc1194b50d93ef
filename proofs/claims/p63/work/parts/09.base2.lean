/-! ===== constants, truth values, numbers ===== -/
theorem bc_m100 : (Int8.ofInt (-100)).toInt32 = (-100) := by decide
theorem bc_m10 : (Int8.ofInt (-10)).toInt32 = (-10) := by decide
theorem bc_m9 : (Int8.ofInt (-9)).toInt32 = (-9) := by decide
theorem bc_6 : (Int8.ofInt 6).toInt32 = nI 6 := by decide
theorem bc_7 : (Int8.ofInt 7).toInt32 = nI 7 := by decide
theorem bc_8 : (Int8.ofInt 8).toInt32 = nI 8 := by decide
theorem bc_9 : (Int8.ofInt 9).toInt32 = nI 9 := by decide
theorem bc_10 : (Int8.ofInt 10).toInt32 = nI 10 := by decide
theorem bc_16 : (Int8.ofInt 16).toInt32 = nI 16 := by decide
theorem bc_20 : (Int8.ofInt 20).toInt32 = nI 20 := by decide
theorem bc_24 : (Int8.ofInt 24).toInt32 = nI 24 := by decide
theorem bc_25 : (Int8.ofInt 25).toInt32 = nI 25 := by decide
theorem bc_32 : (Int8.ofInt 32).toInt32 = nI 32 := by decide
theorem bc_45 : (Int8.ofInt 45).toInt32 = nI 45 := by decide
theorem bc_48 : (Int8.ofInt 48).toInt32 = nI 48 := by decide
theorem bc_50 : (Int8.ofInt 50).toInt32 = nI 50 := by decide
theorem bc_57 : (Int8.ofInt 57).toInt32 = nI 57 := by decide
theorem bc_59 : (Int8.ofInt 59).toInt32 = nI 59 := by decide
theorem bc_60 : (Int8.ofInt 60).toInt32 = nI 60 := by decide
theorem bc_90 : (Int8.ofInt 90).toInt32 = nI 90 := by decide
theorem bc_97 : (Int8.ofInt 97).toInt32 = nI 97 := by decide
theorem bc_99 : (Int8.ofInt 99).toInt32 = nI 99 := by decide
theorem bc_100 : (Int8.ofInt 100).toInt32 = nI 100 := by decide
theorem bc_108 : (Int8.ofInt 108).toInt32 = nI 108 := by decide
theorem bc_110 : (Int8.ofInt 110).toInt32 = nI 110 := by decide
theorem bc_117 : (Int8.ofInt 117).toInt32 = nI 117 := by decide
theorem bc_122 : (Int8.ofInt 122).toInt32 = nI 122 := by decide
theorem ic_m1 : Int32.ofInt (-1) = (-1) := by decide
theorem ic_0 : Int32.ofInt 0 = nI 0 := by decide
theorem ic_1 : Int32.ofInt 1 = nI 1 := by decide
theorem ic_2 : Int32.ofInt 2 = nI 2 := by decide
theorem ic_3 : Int32.ofInt 3 = nI 3 := by decide
theorem ic_4 : Int32.ofInt 4 = nI 4 := by decide
theorem ic_5 : Int32.ofInt 5 = nI 5 := by decide
theorem sc_140 : (Int16.ofInt 140).toInt32 = nI 140 := by decide
theorem sc_200 : (Int16.ofInt 200).toInt32 = nI 200 := by decide
theorem sc_255 : (Int16.ofInt 255).toInt32 = nI 255 := by decide
theorem sc_700 : (Int16.ofInt 700).toInt32 = nI 700 := by decide
theorem sc_999 : (Int16.ofInt 999).toInt32 = nI 999 := by decide
theorem sc_1000 : (Int16.ofInt 1000).toInt32 = nI 1000 := by decide
theorem am_inc1 (k : Nat) : nI k + Int32.ofInt 1 = nI (k + 1) := nI_1 k
theorem am_incx (x : Int32) : x + Int32.ofInt 1 = x + nI 1 := rfl
def am_b (P : Prop) [Decidable P] : Int32 := if P then nI 1 else nI 0
theorem am_bt {P : Prop} [Decidable P] (h : P) : nI 1 = am_b P := by simp [am_b, h]
theorem am_bf {P : Prop} [Decidable P] (h : ¬ P) : nI 0 = am_b P := by simp [am_b, h]
theorem am_bz {P : Prop} [Decidable P] : narrow .boolean (.int (am_b P)) = .int (am_b P) := by
  by_cases h : P <;> simp only [am_b, h, if_true, if_false] <;> rfl
theorem am_b01 {P : Prop} [Decidable P] : am_b P = 0 ∨ am_b P = 1 := by
  by_cases h : P <;> simp only [am_b, h, if_true, if_false]
  · exact Or.inr rfl
  · exact Or.inl rfl
theorem am_beq0 {P : Prop} [Decidable P] : am_b P = 0 ↔ ¬ P := by
  by_cases h : P
  · simp only [am_b, h, if_true, not_true, iff_false]
    decide
  · simp only [am_b, h, if_false, not_false_iff, iff_true]
    decide
section AMN
variable {G : am_G} {X : am_X} {R : Room} {own : String} {cc : ByteArray} {nL : Nat} {ret : Option FieldType} {tb : List ExceptionTableEntry} {Q : State → Prop}
variable {Λ : am_L} {I : am_I} {J : am_J} {k n pc : Nat} {ls : List (Nat × Value)} {st : List Value}
theorem k_ifb_eq (C : am_Cx G X own cc nL ret tb Q) {P : Prop} [Decidable P] {off : Int} {tgt : Nat} (ht : (pc : Int) + off = (tgt : Int)) (hd : decode cc pc = .ok (.ifCond .eq off, 3)) (kt : ¬ P → am_K G X R nL Λ I J (k) (n) (tgt) (ls) (st)) (kf : P → am_K G X R nL Λ I J (k) (n) (pc + 3) (ls) (st)) : am_K G X R nL Λ I J (k) (n) (pc) (ls) (.int (am_b P) :: st) := k_if_eq C ht hd (fun h => kt (am_beq0.mp h)) (fun h => kf (Classical.not_not.mp (fun q => h (am_beq0.mpr q))))
theorem k_ifb_ne (C : am_Cx G X own cc nL ret tb Q) {P : Prop} [Decidable P] {off : Int} {tgt : Nat} (ht : (pc : Int) + off = (tgt : Int)) (hd : decode cc pc = .ok (.ifCond .ne off, 3)) (kt : P → am_K G X R nL Λ I J (k) (n) (tgt) (ls) (st)) (kf : ¬ P → am_K G X R nL Λ I J (k) (n) (pc + 3) (ls) (st)) : am_K G X R nL Λ I J (k) (n) (pc) (ls) (.int (am_b P) :: st) := k_if_ne C ht hd (fun h => kt (Classical.not_not.mp (fun q => h (am_beq0.mpr q)))) (fun h => kf (am_beq0.mp h))
theorem k_icmpN_eq (C : am_Cx G X own cc nL ret tb Q) {a b : Nat} {off : Int} {tgt : Nat} (ha : a < 2 ^ 31) (hb : b < 2 ^ 31) (ht : (pc : Int) + off = (tgt : Int)) (hd : decode cc pc = .ok (.if_icmp .eq off, 3)) (kt : a = b → am_K G X R nL Λ I J (k) (n) (tgt) (ls) (st)) (kf : ¬ a = b → am_K G X R nL Λ I J (k) (n) (pc + 3) (ls) (st)) : am_K G X R nL Λ I J (k) (n) (pc) (ls) (.int (nI b) :: .int (nI a) :: st) := k_icmp_eq C ht hd (fun h => kt ((nI_eq ha hb).mp h)) (fun h => kf (fun q => h ((nI_eq ha hb).mpr q)))
theorem k_icmpN_ne (C : am_Cx G X own cc nL ret tb Q) {a b : Nat} {off : Int} {tgt : Nat} (ha : a < 2 ^ 31) (hb : b < 2 ^ 31) (ht : (pc : Int) + off = (tgt : Int)) (hd : decode cc pc = .ok (.if_icmp .ne off, 3)) (kt : ¬ a = b → am_K G X R nL Λ I J (k) (n) (tgt) (ls) (st)) (kf : a = b → am_K G X R nL Λ I J (k) (n) (pc + 3) (ls) (st)) : am_K G X R nL Λ I J (k) (n) (pc) (ls) (.int (nI b) :: .int (nI a) :: st) := k_icmp_ne C ht hd (fun h => kt (fun q => h ((nI_eq ha hb).mpr q))) (fun h => kf ((nI_eq ha hb).mp h))
theorem k_icmpN_lt (C : am_Cx G X own cc nL ret tb Q) {a b : Nat} {off : Int} {tgt : Nat} (ha : a < 2 ^ 31) (hb : b < 2 ^ 31) (ht : (pc : Int) + off = (tgt : Int)) (hd : decode cc pc = .ok (.if_icmp .lt off, 3)) (kt : a < b → am_K G X R nL Λ I J (k) (n) (tgt) (ls) (st)) (kf : ¬ a < b → am_K G X R nL Λ I J (k) (n) (pc + 3) (ls) (st)) : am_K G X R nL Λ I J (k) (n) (pc) (ls) (.int (nI b) :: .int (nI a) :: st) := k_icmp_lt C ht hd (fun h => kt ((nI_ltI ha hb).mp h)) (fun h => kf (fun q => h ((nI_ltI ha hb).mpr q)))
theorem k_icmpN_ge (C : am_Cx G X own cc nL ret tb Q) {a b : Nat} {off : Int} {tgt : Nat} (ha : a < 2 ^ 31) (hb : b < 2 ^ 31) (ht : (pc : Int) + off = (tgt : Int)) (hd : decode cc pc = .ok (.if_icmp .ge off, 3)) (kt : b ≤ a → am_K G X R nL Λ I J (k) (n) (tgt) (ls) (st)) (kf : ¬ b ≤ a → am_K G X R nL Λ I J (k) (n) (pc + 3) (ls) (st)) : am_K G X R nL Λ I J (k) (n) (pc) (ls) (.int (nI b) :: .int (nI a) :: st) := k_icmp_ge C ht hd (fun h => kt ((nI_leI hb ha).mp h)) (fun h => kf (fun q => h ((nI_leI hb ha).mpr q)))
theorem k_icmpN_gt (C : am_Cx G X own cc nL ret tb Q) {a b : Nat} {off : Int} {tgt : Nat} (ha : a < 2 ^ 31) (hb : b < 2 ^ 31) (ht : (pc : Int) + off = (tgt : Int)) (hd : decode cc pc = .ok (.if_icmp .gt off, 3)) (kt : b < a → am_K G X R nL Λ I J (k) (n) (tgt) (ls) (st)) (kf : ¬ b < a → am_K G X R nL Λ I J (k) (n) (pc + 3) (ls) (st)) : am_K G X R nL Λ I J (k) (n) (pc) (ls) (.int (nI b) :: .int (nI a) :: st) := k_icmp_gt C ht hd (fun h => kt ((nI_ltI hb ha).mp h)) (fun h => kf (fun q => h ((nI_ltI hb ha).mpr q)))
theorem k_icmpN_le (C : am_Cx G X own cc nL ret tb Q) {a b : Nat} {off : Int} {tgt : Nat} (ha : a < 2 ^ 31) (hb : b < 2 ^ 31) (ht : (pc : Int) + off = (tgt : Int)) (hd : decode cc pc = .ok (.if_icmp .le off, 3)) (kt : a ≤ b → am_K G X R nL Λ I J (k) (n) (tgt) (ls) (st)) (kf : ¬ a ≤ b → am_K G X R nL Λ I J (k) (n) (pc + 3) (ls) (st)) : am_K G X R nL Λ I J (k) (n) (pc) (ls) (.int (nI b) :: .int (nI a) :: st) := k_icmp_le C ht hd (fun h => kt ((nI_leI ha hb).mp h)) (fun h => kf (fun q => h ((nI_leI ha hb).mpr q)))
end AMN
/-! ===== layouts: which object lies where ===== -/
def PlanLay (Λ : am_L) (p : Nat) : Prop := Λ.1 p = (1, 3) ∧ Λ.2 p 2 = some (p + 1) ∧ Λ.1 (p + 1) = (2, 10) ∧ Λ.2 p 3 = some (p + 2) ∧ Λ.1 (p + 2) = (2, 10) ∧ Λ.2 p 4 = some (p + 3) ∧ Λ.1 (p + 3) = (2, 10) ∧ Λ.2 p 6 = some (p + 4) ∧ Λ.1 (p + 4) = (2, 8) ∧ Λ.2 p 7 = some (p + 5) ∧ Λ.1 (p + 5) = (2, 8) ∧ Λ.2 p 8 = some (p + 6) ∧ Λ.1 (p + 6) = (2, 8) ∧ Λ.2 p 10 = some (p + 7) ∧ Λ.1 (p + 7) = (2, 6) ∧ Λ.2 p 11 = some (p + 8) ∧ Λ.1 (p + 8) = (2, 6) ∧ Λ.2 p 12 = some (p + 9) ∧ Λ.1 (p + 9) = (2, 6)
theorem L3_s {Λ : am_L} {p : Nat} (hh : PlanLay Λ p) : Λ.1 p = (1, 3) := hh.1
theorem L3_2 {Λ : am_L} {p : Nat} (hh : PlanLay Λ p) : Λ.2 p 2 = some (p + 1) := hh.2.1
theorem A3_2 {Λ : am_L} {p : Nat} (hh : PlanLay Λ p) : Λ.1 (p + 1) = (2, 10) := hh.2.2.1
theorem L3_3 {Λ : am_L} {p : Nat} (hh : PlanLay Λ p) : Λ.2 p 3 = some (p + 2) := hh.2.2.2.1
theorem A3_3 {Λ : am_L} {p : Nat} (hh : PlanLay Λ p) : Λ.1 (p + 2) = (2, 10) := hh.2.2.2.2.1
theorem L3_4 {Λ : am_L} {p : Nat} (hh : PlanLay Λ p) : Λ.2 p 4 = some (p + 3) := hh.2.2.2.2.2.1
theorem A3_4 {Λ : am_L} {p : Nat} (hh : PlanLay Λ p) : Λ.1 (p + 3) = (2, 10) := hh.2.2.2.2.2.2.1
theorem L3_6 {Λ : am_L} {p : Nat} (hh : PlanLay Λ p) : Λ.2 p 6 = some (p + 4) := hh.2.2.2.2.2.2.2.1
theorem A3_6 {Λ : am_L} {p : Nat} (hh : PlanLay Λ p) : Λ.1 (p + 4) = (2, 8) := hh.2.2.2.2.2.2.2.2.1
theorem L3_7 {Λ : am_L} {p : Nat} (hh : PlanLay Λ p) : Λ.2 p 7 = some (p + 5) := hh.2.2.2.2.2.2.2.2.2.1
theorem A3_7 {Λ : am_L} {p : Nat} (hh : PlanLay Λ p) : Λ.1 (p + 5) = (2, 8) := hh.2.2.2.2.2.2.2.2.2.2.1
theorem L3_8 {Λ : am_L} {p : Nat} (hh : PlanLay Λ p) : Λ.2 p 8 = some (p + 6) := hh.2.2.2.2.2.2.2.2.2.2.2.1
theorem A3_8 {Λ : am_L} {p : Nat} (hh : PlanLay Λ p) : Λ.1 (p + 6) = (2, 8) := hh.2.2.2.2.2.2.2.2.2.2.2.2.1
theorem L3_10 {Λ : am_L} {p : Nat} (hh : PlanLay Λ p) : Λ.2 p 10 = some (p + 7) := hh.2.2.2.2.2.2.2.2.2.2.2.2.2.1
theorem A3_10 {Λ : am_L} {p : Nat} (hh : PlanLay Λ p) : Λ.1 (p + 7) = (2, 6) := hh.2.2.2.2.2.2.2.2.2.2.2.2.2.2.1
theorem L3_11 {Λ : am_L} {p : Nat} (hh : PlanLay Λ p) : Λ.2 p 11 = some (p + 8) := hh.2.2.2.2.2.2.2.2.2.2.2.2.2.2.2.1
theorem A3_11 {Λ : am_L} {p : Nat} (hh : PlanLay Λ p) : Λ.1 (p + 8) = (2, 6) := hh.2.2.2.2.2.2.2.2.2.2.2.2.2.2.2.2.1
theorem L3_12 {Λ : am_L} {p : Nat} (hh : PlanLay Λ p) : Λ.2 p 12 = some (p + 9) := hh.2.2.2.2.2.2.2.2.2.2.2.2.2.2.2.2.2.1
theorem A3_12 {Λ : am_L} {p : Nat} (hh : PlanLay Λ p) : Λ.1 (p + 9) = (2, 6) := hh.2.2.2.2.2.2.2.2.2.2.2.2.2.2.2.2.2.2
def CarLay (Λ : am_L) (c q p : Nat) : Prop := Λ.1 c = (1, 0) ∧ Λ.2 c 0 = some p ∧ Λ.2 c 6 = some (q) ∧ Λ.1 (q) = (2, 10) ∧ Λ.2 c 7 = some (q + 1) ∧ Λ.1 (q + 1) = (2, 10) ∧ Λ.2 c 8 = some (q + 2) ∧ Λ.1 (q + 2) = (2, 10) ∧ Λ.2 c 9 = some (q + 3) ∧ Λ.1 (q + 3) = (2, 10) ∧ Λ.2 c 10 = some (q + 4) ∧ Λ.1 (q + 4) = (2, 10) ∧ Λ.2 c 11 = some (q + 5) ∧ Λ.1 (q + 5) = (2, 8) ∧ Λ.2 c 13 = some (q + 6) ∧ Λ.1 (q + 6) = (2, 20) ∧ Λ.2 c 14 = some (q + 7) ∧ Λ.1 (q + 7) = (2, 20) ∧ Λ.2 c 15 = some (q + 8) ∧ Λ.1 (q + 8) = (2, 20) ∧ Λ.2 c 16 = some (q + 9) ∧ Λ.1 (q + 9) = (2, 20) ∧ PlanLay Λ p ∧ (c < q ∨ q + 10 ≤ c) ∧ (c < p ∨ p + 10 ≤ c) ∧ (q + 10 ≤ p ∨ p + 10 ≤ q)
theorem L0_s {Λ : am_L} {c q p : Nat} (hh : CarLay Λ c q p) : Λ.1 c = (1, 0) := hh.1
theorem L0_0 {Λ : am_L} {c q p : Nat} (hh : CarLay Λ c q p) : Λ.2 c 0 = some p := hh.2.1
theorem L0_6 {Λ : am_L} {c q p : Nat} (hh : CarLay Λ c q p) : Λ.2 c 6 = some (q) := hh.2.2.1
theorem A0_6 {Λ : am_L} {c q p : Nat} (hh : CarLay Λ c q p) : Λ.1 (q) = (2, 10) := hh.2.2.2.1
theorem L0_7 {Λ : am_L} {c q p : Nat} (hh : CarLay Λ c q p) : Λ.2 c 7 = some (q + 1) := hh.2.2.2.2.1
theorem A0_7 {Λ : am_L} {c q p : Nat} (hh : CarLay Λ c q p) : Λ.1 (q + 1) = (2, 10) := hh.2.2.2.2.2.1
theorem L0_8 {Λ : am_L} {c q p : Nat} (hh : CarLay Λ c q p) : Λ.2 c 8 = some (q + 2) := hh.2.2.2.2.2.2.1
theorem A0_8 {Λ : am_L} {c q p : Nat} (hh : CarLay Λ c q p) : Λ.1 (q + 2) = (2, 10) := hh.2.2.2.2.2.2.2.1
theorem L0_9 {Λ : am_L} {c q p : Nat} (hh : CarLay Λ c q p) : Λ.2 c 9 = some (q + 3) := hh.2.2.2.2.2.2.2.2.1
theorem A0_9 {Λ : am_L} {c q p : Nat} (hh : CarLay Λ c q p) : Λ.1 (q + 3) = (2, 10) := hh.2.2.2.2.2.2.2.2.2.1
theorem L0_10 {Λ : am_L} {c q p : Nat} (hh : CarLay Λ c q p) : Λ.2 c 10 = some (q + 4) := hh.2.2.2.2.2.2.2.2.2.2.1
theorem A0_10 {Λ : am_L} {c q p : Nat} (hh : CarLay Λ c q p) : Λ.1 (q + 4) = (2, 10) := hh.2.2.2.2.2.2.2.2.2.2.2.1
theorem L0_11 {Λ : am_L} {c q p : Nat} (hh : CarLay Λ c q p) : Λ.2 c 11 = some (q + 5) := hh.2.2.2.2.2.2.2.2.2.2.2.2.1
theorem A0_11 {Λ : am_L} {c q p : Nat} (hh : CarLay Λ c q p) : Λ.1 (q + 5) = (2, 8) := hh.2.2.2.2.2.2.2.2.2.2.2.2.2.1
theorem L0_13 {Λ : am_L} {c q p : Nat} (hh : CarLay Λ c q p) : Λ.2 c 13 = some (q + 6) := hh.2.2.2.2.2.2.2.2.2.2.2.2.2.2.1
theorem A0_13 {Λ : am_L} {c q p : Nat} (hh : CarLay Λ c q p) : Λ.1 (q + 6) = (2, 20) := hh.2.2.2.2.2.2.2.2.2.2.2.2.2.2.2.1
theorem L0_14 {Λ : am_L} {c q p : Nat} (hh : CarLay Λ c q p) : Λ.2 c 14 = some (q + 7) := hh.2.2.2.2.2.2.2.2.2.2.2.2.2.2.2.2.1
theorem A0_14 {Λ : am_L} {c q p : Nat} (hh : CarLay Λ c q p) : Λ.1 (q + 7) = (2, 20) := hh.2.2.2.2.2.2.2.2.2.2.2.2.2.2.2.2.2.1
theorem L0_15 {Λ : am_L} {c q p : Nat} (hh : CarLay Λ c q p) : Λ.2 c 15 = some (q + 8) := hh.2.2.2.2.2.2.2.2.2.2.2.2.2.2.2.2.2.2.1
theorem A0_15 {Λ : am_L} {c q p : Nat} (hh : CarLay Λ c q p) : Λ.1 (q + 8) = (2, 20) := hh.2.2.2.2.2.2.2.2.2.2.2.2.2.2.2.2.2.2.2.1
theorem L0_16 {Λ : am_L} {c q p : Nat} (hh : CarLay Λ c q p) : Λ.2 c 16 = some (q + 9) := hh.2.2.2.2.2.2.2.2.2.2.2.2.2.2.2.2.2.2.2.2.1
theorem A0_16 {Λ : am_L} {c q p : Nat} (hh : CarLay Λ c q p) : Λ.1 (q + 9) = (2, 20) := hh.2.2.2.2.2.2.2.2.2.2.2.2.2.2.2.2.2.2.2.2.2.1
theorem L0_p {Λ : am_L} {c q p : Nat} (hh : CarLay Λ c q p) : PlanLay Λ p := hh.2.2.2.2.2.2.2.2.2.2.2.2.2.2.2.2.2.2.2.2.2.2.1
theorem L0_d1 {Λ : am_L} {c q p : Nat} (hh : CarLay Λ c q p) : (c < q ∨ q + 10 ≤ c) := hh.2.2.2.2.2.2.2.2.2.2.2.2.2.2.2.2.2.2.2.2.2.2.2.1
theorem L0_d2 {Λ : am_L} {c q p : Nat} (hh : CarLay Λ c q p) : (c < p ∨ p + 10 ≤ c) := hh.2.2.2.2.2.2.2.2.2.2.2.2.2.2.2.2.2.2.2.2.2.2.2.2.1
theorem L0_d3 {Λ : am_L} {c q p : Nat} (hh : CarLay Λ c q p) : (q + 10 ≤ p ∨ p + 10 ≤ q) := hh.2.2.2.2.2.2.2.2.2.2.2.2.2.2.2.2.2.2.2.2.2.2.2.2.2
def HistLay (Λ : am_L) (h p : Nat) : Prop := Λ.1 h = (1, 1) ∧ Λ.2 h 0 = some (h + 1) ∧ Λ.1 (h + 1) = (6, 8) ∧ (∀ j : Nat, j < 8 → Λ.2 (h + 1) j = some (h + 2 + 11 * j) ∧ CarLay Λ (h + 2 + 11 * j) (h + 3 + 11 * j) p)
theorem L1_s {Λ : am_L} {h p : Nat} (hh : HistLay Λ h p) : Λ.1 h = (1, 1) := hh.1
theorem L1_0 {Λ : am_L} {h p : Nat} (hh : HistLay Λ h p) : Λ.2 h 0 = some (h + 1) := hh.2.1
theorem A1_0 {Λ : am_L} {h p : Nat} (hh : HistLay Λ h p) : Λ.1 (h + 1) = (6, 8) := hh.2.2.1
theorem L1_r {Λ : am_L} {h p : Nat} (hh : HistLay Λ h p) : (∀ j : Nat, j < 8 → Λ.2 (h + 1) j = some (h + 2 + 11 * j) ∧ CarLay Λ (h + 2 + 11 * j) (h + 3 + 11 * j) p) := hh.2.2.2
def InLay (Λ : am_L) (i : Nat) : Prop := Λ.1 i = (1, 2) ∧ Λ.2 i 0 = some (i + 1) ∧ Λ.1 (i + 1) = (3, 700) ∧ Λ.2 i 2 = some (i + 2) ∧ CarLay Λ (i + 2) (i + 13) (i + 3)
theorem L2_s {Λ : am_L} {i : Nat} (hh : InLay Λ i) : Λ.1 i = (1, 2) := hh.1
theorem L2_0 {Λ : am_L} {i : Nat} (hh : InLay Λ i) : Λ.2 i 0 = some (i + 1) := hh.2.1
theorem A2_0 {Λ : am_L} {i : Nat} (hh : InLay Λ i) : Λ.1 (i + 1) = (3, 700) := hh.2.2.1
theorem L2_2 {Λ : am_L} {i : Nat} (hh : InLay Λ i) : Λ.2 i 2 = some (i + 2) := hh.2.2.2.1
theorem L2_c {Λ : am_L} {i : Nat} (hh : InLay Λ i) : CarLay Λ (i + 2) (i + 13) (i + 3) := hh.2.2.2.2
def WriLay (Λ : am_L) (w : Nat) : Prop := Λ.1 w = (1, 4) ∧ Λ.2 w 0 = some (w + 1) ∧ Λ.1 (w + 1) = (3, 140)
theorem L4_s {Λ : am_L} {w : Nat} (hh : WriLay Λ w) : Λ.1 w = (1, 4) := hh.1
theorem L4_0 {Λ : am_L} {w : Nat} (hh : WriLay Λ w) : Λ.2 w 0 = some (w + 1) := hh.2.1
theorem A4_0 {Λ : am_L} {w : Nat} (hh : WriLay Λ w) : Λ.1 (w + 1) = (3, 140) := hh.2.2
def RouLay (Λ : am_L) (x : Nat) : Prop := Λ.1 x = (1, 5) ∧ Λ.2 x 0 = some (x + 1) ∧ Λ.2 x 2 = some (x + 34) ∧ Λ.2 x 3 = some (x + 45) ∧ Λ.2 x 4 = some (x + 56) ∧ Λ.2 x 5 = some (x + 146) ∧ Λ.1 (x + 146) = (6, 2) ∧ Λ.2 x 6 = some (x + 169) ∧ Λ.1 (x + 169) = (4, 2) ∧ Λ.2 x 7 = some (x + 170) ∧ Λ.1 (x + 170) = (2, 10) ∧ Λ.2 x 8 = some (x + 171) ∧ InLay Λ (x + 1) ∧ PlanLay Λ (x + 24) ∧ CarLay Λ (x + 34) (x + 35) (x + 24) ∧ CarLay Λ (x + 45) (x + 46) (x + 24) ∧ HistLay Λ (x + 56) (x + 24) ∧ (∀ j : Nat, j < 2 → Λ.2 (x + 146) j = some (x + 147 + 11 * j) ∧ CarLay Λ (x + 147 + 11 * j) (x + 148 + 11 * j) (x + 24)) ∧ WriLay Λ (x + 171)
theorem L5_s {Λ : am_L} {x : Nat} (hh : RouLay Λ x) : Λ.1 x = (1, 5) := hh.1
theorem L5_0 {Λ : am_L} {x : Nat} (hh : RouLay Λ x) : Λ.2 x 0 = some (x + 1) := hh.2.1
theorem L5_2 {Λ : am_L} {x : Nat} (hh : RouLay Λ x) : Λ.2 x 2 = some (x + 34) := hh.2.2.1
theorem L5_3 {Λ : am_L} {x : Nat} (hh : RouLay Λ x) : Λ.2 x 3 = some (x + 45) := hh.2.2.2.1
theorem L5_4 {Λ : am_L} {x : Nat} (hh : RouLay Λ x) : Λ.2 x 4 = some (x + 56) := hh.2.2.2.2.1
theorem L5_5 {Λ : am_L} {x : Nat} (hh : RouLay Λ x) : Λ.2 x 5 = some (x + 146) := hh.2.2.2.2.2.1
theorem A5_5 {Λ : am_L} {x : Nat} (hh : RouLay Λ x) : Λ.1 (x + 146) = (6, 2) := hh.2.2.2.2.2.2.1
theorem L5_6 {Λ : am_L} {x : Nat} (hh : RouLay Λ x) : Λ.2 x 6 = some (x + 169) := hh.2.2.2.2.2.2.2.1
theorem A5_6 {Λ : am_L} {x : Nat} (hh : RouLay Λ x) : Λ.1 (x + 169) = (4, 2) := hh.2.2.2.2.2.2.2.2.1
theorem L5_7 {Λ : am_L} {x : Nat} (hh : RouLay Λ x) : Λ.2 x 7 = some (x + 170) := hh.2.2.2.2.2.2.2.2.2.1
theorem A5_7 {Λ : am_L} {x : Nat} (hh : RouLay Λ x) : Λ.1 (x + 170) = (2, 10) := hh.2.2.2.2.2.2.2.2.2.2.1
theorem L5_8 {Λ : am_L} {x : Nat} (hh : RouLay Λ x) : Λ.2 x 8 = some (x + 171) := hh.2.2.2.2.2.2.2.2.2.2.2.1
theorem L5_i {Λ : am_L} {x : Nat} (hh : RouLay Λ x) : InLay Λ (x + 1) := hh.2.2.2.2.2.2.2.2.2.2.2.2.1
theorem L5_p {Λ : am_L} {x : Nat} (hh : RouLay Λ x) : PlanLay Λ (x + 24) := hh.2.2.2.2.2.2.2.2.2.2.2.2.2.1
theorem L5_n {Λ : am_L} {x : Nat} (hh : RouLay Λ x) : CarLay Λ (x + 34) (x + 35) (x + 24) := hh.2.2.2.2.2.2.2.2.2.2.2.2.2.2.1
theorem L5_t {Λ : am_L} {x : Nat} (hh : RouLay Λ x) : CarLay Λ (x + 45) (x + 46) (x + 24) := hh.2.2.2.2.2.2.2.2.2.2.2.2.2.2.2.1
theorem L5_h {Λ : am_L} {x : Nat} (hh : RouLay Λ x) : HistLay Λ (x + 56) (x + 24) := hh.2.2.2.2.2.2.2.2.2.2.2.2.2.2.2.2.1
theorem L5_k {Λ : am_L} {x : Nat} (hh : RouLay Λ x) : (∀ j : Nat, j < 2 → Λ.2 (x + 146) j = some (x + 147 + 11 * j) ∧ CarLay Λ (x + 147 + 11 * j) (x + 148 + 11 * j) (x + 24)) := hh.2.2.2.2.2.2.2.2.2.2.2.2.2.2.2.2.2.1
theorem L5_w {Λ : am_L} {x : Nat} (hh : RouLay Λ x) : WriLay Λ (x + 171) := hh.2.2.2.2.2.2.2.2.2.2.2.2.2.2.2.2.2.2
def ModLay (Λ : am_L) (m : Nat) : Prop := Λ.1 m = (1, 6) ∧ Λ.2 m 0 = some (m + 1) ∧ Λ.1 (m + 1) = (2, 220) ∧ Λ.2 m 1 = some (m + 2) ∧ Λ.1 (m + 2) = (2, 220) ∧ Λ.2 m 2 = some (m + 3) ∧ Λ.1 (m + 3) = (2, 220) ∧ Λ.2 m 3 = some (m + 4) ∧ Λ.1 (m + 4) = (2, 1760) ∧ Λ.2 m 4 = some (m + 5) ∧ Λ.1 (m + 5) = (2, 440) ∧ Λ.2 m 5 = some (m + 6) ∧ Λ.1 (m + 6) = (4, 2) ∧ Λ.2 m 7 = some (m + 7) ∧ Λ.1 (m + 7) = (2, 700) ∧ Λ.2 m 11 = some (m + 8) ∧ Λ.1 (m + 8) = (2, 10) ∧ Λ.2 m 18 = some (m + 9) ∧ Λ.1 (m + 9) = (2, 300)
theorem L6_s {Λ : am_L} {m : Nat} (hh : ModLay Λ m) : Λ.1 m = (1, 6) := hh.1
theorem L6_0 {Λ : am_L} {m : Nat} (hh : ModLay Λ m) : Λ.2 m 0 = some (m + 1) := hh.2.1
theorem A6_0 {Λ : am_L} {m : Nat} (hh : ModLay Λ m) : Λ.1 (m + 1) = (2, 220) := hh.2.2.1
theorem L6_1 {Λ : am_L} {m : Nat} (hh : ModLay Λ m) : Λ.2 m 1 = some (m + 2) := hh.2.2.2.1
theorem A6_1 {Λ : am_L} {m : Nat} (hh : ModLay Λ m) : Λ.1 (m + 2) = (2, 220) := hh.2.2.2.2.1
theorem L6_2 {Λ : am_L} {m : Nat} (hh : ModLay Λ m) : Λ.2 m 2 = some (m + 3) := hh.2.2.2.2.2.1
theorem A6_2 {Λ : am_L} {m : Nat} (hh : ModLay Λ m) : Λ.1 (m + 3) = (2, 220) := hh.2.2.2.2.2.2.1
theorem L6_3 {Λ : am_L} {m : Nat} (hh : ModLay Λ m) : Λ.2 m 3 = some (m + 4) := hh.2.2.2.2.2.2.2.1
theorem A6_3 {Λ : am_L} {m : Nat} (hh : ModLay Λ m) : Λ.1 (m + 4) = (2, 1760) := hh.2.2.2.2.2.2.2.2.1
theorem L6_4 {Λ : am_L} {m : Nat} (hh : ModLay Λ m) : Λ.2 m 4 = some (m + 5) := hh.2.2.2.2.2.2.2.2.2.1
theorem A6_4 {Λ : am_L} {m : Nat} (hh : ModLay Λ m) : Λ.1 (m + 5) = (2, 440) := hh.2.2.2.2.2.2.2.2.2.2.1
theorem L6_5 {Λ : am_L} {m : Nat} (hh : ModLay Λ m) : Λ.2 m 5 = some (m + 6) := hh.2.2.2.2.2.2.2.2.2.2.2.1
theorem A6_5 {Λ : am_L} {m : Nat} (hh : ModLay Λ m) : Λ.1 (m + 6) = (4, 2) := hh.2.2.2.2.2.2.2.2.2.2.2.2.1
theorem L6_7 {Λ : am_L} {m : Nat} (hh : ModLay Λ m) : Λ.2 m 7 = some (m + 7) := hh.2.2.2.2.2.2.2.2.2.2.2.2.2.1
theorem A6_7 {Λ : am_L} {m : Nat} (hh : ModLay Λ m) : Λ.1 (m + 7) = (2, 700) := hh.2.2.2.2.2.2.2.2.2.2.2.2.2.2.1
theorem L6_11 {Λ : am_L} {m : Nat} (hh : ModLay Λ m) : Λ.2 m 11 = some (m + 8) := hh.2.2.2.2.2.2.2.2.2.2.2.2.2.2.2.1
theorem A6_11 {Λ : am_L} {m : Nat} (hh : ModLay Λ m) : Λ.1 (m + 8) = (2, 10) := hh.2.2.2.2.2.2.2.2.2.2.2.2.2.2.2.2.1
theorem L6_18 {Λ : am_L} {m : Nat} (hh : ModLay Λ m) : Λ.2 m 18 = some (m + 9) := hh.2.2.2.2.2.2.2.2.2.2.2.2.2.2.2.2.2.1
theorem A6_18 {Λ : am_L} {m : Nat} (hh : ModLay Λ m) : Λ.1 (m + 9) = (2, 300) := hh.2.2.2.2.2.2.2.2.2.2.2.2.2.2.2.2.2.2
