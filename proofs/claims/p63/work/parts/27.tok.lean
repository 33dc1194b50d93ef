
/-! ===== the text and its tokens: bytes as numbers 0 to 255; a token is its kind (0 end, 1 word, 2 number, 3 semicolon, 4 wrong), where it starts and stops, and its number ===== -/
def sp_sb (m : Nat) : Int32 := (nI m).toInt8.toInt32
theorem sp_sb_lo {m : Nat} (h : m < 128) : sp_sb m = nI m := nI_i2b h
theorem sp_sb_hi {m : Nat} (h : 128 ≤ m) (h2 : m < 256) : sp_sb m < 0 := by
  have e : ∀ k : Fin 128, (nI (128 + k.val)).toInt8.toInt32 < 0 := by decide +kernel
  have := e ⟨m - 128, by omega⟩
  rw [show 128 + (m - 128) = m by omega] at this
  exact this
theorem sp_sbl {m c : Nat} (hm : m < 256) (hc : c < 128) : sp_sb m < nI c ↔ (m < c ∨ 128 ≤ m) := by
  by_cases h : m < 128
  · rw [sp_sb_lo h, nI_ltI (by omega) (by omega)]; omega
  · exact ⟨fun _ => Or.inr (by omega), fun _ => Int32.lt_of_lt_of_le (sp_sb_hi (by omega) hm) (nI_pos' (by omega))⟩
theorem sp_sbg {m c : Nat} (hm : m < 256) (hc : c < 128) : nI c < sp_sb m ↔ (c < m ∧ m < 128) := by
  by_cases h : m < 128
  · rw [sp_sb_lo h, nI_ltI (by omega) (by omega)]; omega
  · exact ⟨fun z => absurd (Int32.lt_trans z (sp_sb_hi (by omega) hm)) (nI_neg (by omega)), fun z => absurd z.2 h⟩
theorem sp_sbe {m c : Nat} (hm : m < 256) (hc : c < 128) : sp_sb m = nI c ↔ m = c := by
  by_cases h : m < 128
  · rw [sp_sb_lo h, nI_eq (by omega) (by omega)]
  · exact ⟨fun z => absurd (z ▸ sp_sb_hi (by omega) hm) (nI_neg (by omega)), fun z => by omega⟩
def sp_isS (m : Nat) : Bool := decide (m = 32 ∨ m = 10)
def sp_isA (m : Nat) : Bool := decide (97 ≤ m ∧ m ≤ 122)
def sp_isD (m : Nat) : Bool := decide (48 ≤ m ∧ m ≤ 57)
theorem sp_isS_iff {m : Nat} : sp_isS m = true ↔ (m = 32 ∨ m = 10) := by simp [sp_isS]
theorem sp_isA_iff {m : Nat} : sp_isA m = true ↔ (97 ≤ m ∧ m ≤ 122) := by simp [sp_isA]
theorem sp_isD_iff {m : Nat} : sp_isD m = true ↔ (48 ≤ m ∧ m ≤ 57) := by simp [sp_isD]
def sp_run (P : Nat → Bool) (tb : Nat → Nat) (n : Nat) : Nat → Nat → Nat
  | 0, k => k
  | f + 1, k => if k < n ∧ P (tb k) = true then sp_run P tb n f (k + 1) else k
/-- the first place from k on where the run of such bytes ends -/
def sp_end (P : Nat → Bool) (tb : Nat → Nat) (n k : Nat) : Nat := sp_run P tb n (n - k) k
theorem sp_end_t {P : Nat → Bool} {tb : Nat → Nat} {n k : Nat} (h : k < n ∧ P (tb k) = true) : sp_end P tb n k = sp_end P tb n (k + 1) := by
  unfold sp_end
  rw [show n - k = (n - (k + 1)) + 1 by omega]
  exact if_pos h
theorem sp_end_f {P : Nat → Bool} {tb : Nat → Nat} {n k : Nat} (h : ¬ (k < n ∧ P (tb k) = true)) : sp_end P tb n k = k := by
  unfold sp_end
  cases n - k with
  | zero => rfl
  | succ f => exact if_neg h
theorem sp_run_b {P : Nat → Bool} {tb : Nat → Nat} {n : Nat} : ∀ (f k : Nat), k ≤ n → k ≤ sp_run P tb n f k ∧ sp_run P tb n f k ≤ n ∧ ∀ j : Nat, k ≤ j → j < sp_run P tb n f k → P (tb j) = true := by
  intro f
  induction f with
  | zero => intro k hk; exact ⟨Nat.le_refl _, hk, fun j h1 h2 => by have : j < k := h2; omega⟩
  | succ f ih =>
    intro k hk
    by_cases h : k < n ∧ P (tb k) = true
    · have e : sp_run P tb n (f + 1) k = sp_run P tb n f (k + 1) := if_pos h
      obtain ⟨h1, h2, h3⟩ := ih (k + 1) h.1
      rw [e]
      exact ⟨by omega, h2, fun j g1 g2 => by
        by_cases z : j = k
        · rw [z]; exact h.2
        · exact h3 j (by omega) g2⟩
    · have e : sp_run P tb n (f + 1) k = k := if_neg h
      rw [e]
      exact ⟨Nat.le_refl _, hk, fun j h1 h2 => by omega⟩
theorem sp_end_b {P : Nat → Bool} {tb : Nat → Nat} {n k : Nat} (h : k ≤ n) : k ≤ sp_end P tb n k ∧ sp_end P tb n k ≤ n := ⟨(sp_run_b _ _ h).1, (sp_run_b _ _ h).2.1⟩
theorem sp_end_all {P : Nat → Bool} {tb : Nat → Nat} {n k : Nat} (h : k ≤ n) : ∀ j : Nat, k ≤ j → j < sp_end P tb n k → P (tb j) = true := (sp_run_b _ _ h).2.2
theorem sp_run_stop {P : Nat → Bool} {tb : Nat → Nat} {n : Nat} : ∀ (f k : Nat), n ≤ k + f → ¬ (sp_run P tb n f k < n ∧ P (tb (sp_run P tb n f k)) = true) := by
  intro f
  induction f with
  | zero => intro k hk h; have : k < n := h.1; omega
  | succ f ih =>
    intro k hk
    by_cases h : k < n ∧ P (tb k) = true
    · have e : sp_run P tb n (f + 1) k = sp_run P tb n f (k + 1) := if_pos h
      rw [e]
      exact ih (k + 1) (by omega)
    · have e : sp_run P tb n (f + 1) k = k := if_neg h
      rw [e]
      exact h
theorem sp_end_stop {P : Nat → Bool} {tb : Nat → Nat} {n k : Nat} : ¬ (sp_end P tb n k < n ∧ P (tb (sp_end P tb n k)) = true) := sp_run_stop _ _ (by omega)
abbrev sp_T : Type := Nat × Nat × Nat × Nat
def sp_val (tb : Nat → Nat) (st : Nat) : Nat → Nat
  | 0 => 0
  | k + 1 => sp_val tb st k * 10 + (tb (st + k) - 48)
/-- the token that begins at st -/
def sp_tokAt (tb : Nat → Nat) (n st : Nat) : sp_T :=
  if n ≤ st then (0, st, st, 0)
  else if sp_isA (tb st) = true then (1, st, sp_end sp_isA tb n st, 0)
  else if sp_isD (tb st) = true then (if sp_end sp_isD tb n st - st ≤ 3 then 2 else 4, st, sp_end sp_isD tb n st, sp_val tb st (min 3 (sp_end sp_isD tb n st - st)))
  else (if tb st = 59 then 3 else 4, st, st + 1, 0)
/-- the next token from place k on -/
def sp_tok (tb : Nat → Nat) (n k : Nat) : sp_T := sp_tokAt tb n (sp_end sp_isS tb n k)
theorem sp_tokAt_0 {tb : Nat → Nat} {n st : Nat} (h : n ≤ st) : sp_tokAt tb n st = (0, st, st, 0) := if_pos h
theorem sp_tokAt_1 {tb : Nat → Nat} {n st : Nat} (h : st < n) (h1 : 97 ≤ tb st ∧ tb st ≤ 122) : sp_tokAt tb n st = (1, st, sp_end sp_isA tb n st, 0) := by
  unfold sp_tokAt
  rw [if_neg (by omega), if_pos (sp_isA_iff.mpr h1)]
theorem sp_tokAt_2 {tb : Nat → Nat} {n st : Nat} (h : st < n) (h1 : 48 ≤ tb st ∧ tb st ≤ 57) : sp_tokAt tb n st = (if sp_end sp_isD tb n st - st ≤ 3 then 2 else 4, st, sp_end sp_isD tb n st, sp_val tb st (min 3 (sp_end sp_isD tb n st - st))) := by
  unfold sp_tokAt
  rw [if_neg (by omega), if_neg (fun z => by have := sp_isA_iff.mp z; omega), if_pos (sp_isD_iff.mpr h1)]
theorem sp_tokAt_3 {tb : Nat → Nat} {n st : Nat} (h : st < n) (h1 : ¬ (97 ≤ tb st ∧ tb st ≤ 122)) (h2 : ¬ (48 ≤ tb st ∧ tb st ≤ 57)) : sp_tokAt tb n st = (if tb st = 59 then 3 else 4, st, st + 1, 0) := by
  unfold sp_tokAt
  rw [if_neg (by omega), if_neg (fun z => h1 (sp_isA_iff.mp z)), if_neg (fun z => h2 (sp_isD_iff.mp z))]
theorem sp_val_b {tb : Nat → Nat} {st : Nat} : ∀ k : Nat, (∀ j : Nat, j < k → 48 ≤ tb (st + j) ∧ tb (st + j) ≤ 57) → sp_val tb st k < 10 ^ k := by
  intro k
  induction k with
  | zero => intro _; exact Nat.lt_of_lt_of_le Nat.zero_lt_one (Nat.le_refl _)
  | succ k ih =>
    intro h
    have h1 := ih (fun j hj => h j (by omega))
    have h2 := h k (by omega)
    simp only [sp_val]
    have : (10 : Nat) ^ (k + 1) = 10 ^ k * 10 := Nat.pow_succ ..
    omega
theorem sp_num_b {tb : Nat → Nat} {n st : Nat} (h : st ≤ n) : sp_val tb st (min 3 (sp_end sp_isD tb n st - st)) ≤ 999 := by
  have a := sp_end_all (P := sp_isD) (tb := tb) h
  have b := sp_end_b (P := sp_isD) (tb := tb) h
  have c := sp_val_b (tb := tb) (st := st) (min 3 (sp_end sp_isD tb n st - st)) (fun j hj => sp_isD_iff.mp (a (st + j) (by omega) (by omega)))
  have d : (10 : Nat) ^ (min 3 (sp_end sp_isD tb n st - st)) ≤ 10 ^ 3 := Nat.pow_le_pow_right (by omega) (Nat.min_le_left _ _)
  omega
/-- every token lies within the text -/
theorem sp_tokAt_b {tb : Nat → Nat} {n st : Nat} (h : st ≤ n) : (sp_tokAt tb n st).1 ≤ 4 ∧ (sp_tokAt tb n st).2.1 = st ∧ st ≤ (sp_tokAt tb n st).2.2.1 ∧ (sp_tokAt tb n st).2.2.1 ≤ n ∧ (sp_tokAt tb n st).2.2.2 ≤ 999 := by
  by_cases h0 : n ≤ st
  · rw [sp_tokAt_0 h0]; exact ⟨Nat.zero_le _, rfl, Nat.le_refl _, h, Nat.zero_le _⟩
  · by_cases h1 : 97 ≤ tb st ∧ tb st ≤ 122
    · rw [sp_tokAt_1 (by omega) h1]
      have := sp_end_b (P := sp_isA) (tb := tb) h
      exact ⟨show (1 : Nat) ≤ 4 from by omega, rfl, this.1, this.2, Nat.zero_le _⟩
    · by_cases h2 : 48 ≤ tb st ∧ tb st ≤ 57
      · rw [sp_tokAt_2 (by omega) h2]
        have := sp_end_b (P := sp_isD) (tb := tb) h
        exact ⟨by show (if _ then 2 else 4) ≤ 4; split <;> decide, rfl, this.1, this.2, sp_num_b h⟩
      · rw [sp_tokAt_3 (by omega) h1 h2]
        exact ⟨by show (if _ then 3 else 4) ≤ 4; split <;> decide, rfl, Nat.le_succ _, by show st + 1 ≤ n; omega, Nat.zero_le _⟩
theorem sp_tok_b {tb : Nat → Nat} {n k : Nat} (h : k ≤ n) : (sp_tok tb n k).1 ≤ 4 ∧ k ≤ (sp_tok tb n k).2.1 ∧ (sp_tok tb n k).2.1 ≤ (sp_tok tb n k).2.2.1 ∧ (sp_tok tb n k).2.2.1 ≤ n ∧ (sp_tok tb n k).2.2.2 ≤ 999 := by
  have a := sp_end_b (P := sp_isS) (tb := tb) h
  have b := sp_tokAt_b (tb := tb) (n := n) a.2
  unfold sp_tok
  exact ⟨b.1, by rw [b.2.1]; exact a.1, by rw [b.2.1]; exact b.2.2.1, b.2.2.2.1, b.2.2.2.2⟩
/-- the word is the constant at si -/
def sp_isw (tb : Nat → Nat) (t : sp_T) (si : Nat) : Bool := decide (t.1 = 1 ∧ t.2.2.1 - t.2.1 = am_slen.getD si 0 ∧ ∀ k : Nat, k < am_slen.getD si 0 → nI (tb (t.2.1 + k)) = am_ch si k)
theorem sp_isw_iff {tb : Nat → Nat} {t : sp_T} {si : Nat} : sp_isw tb t si = true ↔ (t.1 = 1 ∧ t.2.2.1 - t.2.1 = am_slen.getD si 0 ∧ ∀ k : Nat, k < am_slen.getD si 0 → nI (tb (t.2.1 + k)) = am_ch si k) := by
  unfold sp_isw
  exact decide_eq_true_iff
def sp_nx (tb : Nat → Nat) (n : Nat) (t : sp_T) : sp_T := sp_tok tb n t.2.2.1
/-! ===== the input's cells ===== -/
def InTxt (I : am_I) (i : Nat) (tb : Nat → Nat) (n : Nat) : Prop := I i 1 = nI n ∧ n ≤ 700 ∧ ∀ j : Nat, j < n → I (i + 1) j = sp_sb (tb j) ∧ tb j < 256
def InTok (I : am_I) (i n : Nat) (t : sp_T) : Prop := I i 3 = nI t.1 ∧ I i 4 = nI t.2.1 ∧ I i 5 = nI t.2.2.1 ∧ (t.1 = 2 → I i 6 = nI t.2.2.2) ∧ t.1 ≤ 4 ∧ t.2.1 ≤ t.2.2.1 ∧ t.2.2.1 ≤ n ∧ t.2.2.2 ≤ 999
def InFr (i : Nat) (I I' : am_I) : Prop := ∀ b K : Nat, ¬ (b = i ∧ 3 ≤ K ∧ K ≤ 7) → I' b K = I b K
theorem InTxt.fr {I I' : am_I} {i n : Nat} {tb : Nat → Nat} (h : InTxt I i tb n) (hf : InFr i I I') : InTxt I' i tb n := ⟨by rw [hf i 1 (by omega)]; exact h.1, h.2.1, fun j hj => by rw [hf (i + 1) j (by omega)]; exact h.2.2 j hj⟩
theorem InFr.rf {i : Nat} {I : am_I} : InFr i I I := fun _ _ _ => rfl
theorem InFr.tr {i : Nat} {I I1 I2 : am_I} (h : InFr i I I1) (h2 : InFr i I1 I2) : InFr i I I2 := fun b K hb => (h2 b K hb).trans (h b K hb)
theorem InFr.up {i K : Nat} {I I1 : am_I} {x : Int32} (h : InFr i I I1) (hK : 3 ≤ K ∧ K ≤ 7) : InFr i I (am_up I1 i K x) := fun b j hb => by rw [am_up_n2 (fun e => hb (by omega))]; exact h b j hb
