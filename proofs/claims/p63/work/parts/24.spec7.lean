
/-! ===== what is written ===== -/
def sp_pt (t : Nat × (Nat → Int32)) (m : Nat) : Nat × (Nat → Int32) := (t.1 + 1, upd t.2 t.1 (nI m))
def sp_pn (t : Nat × (Nat → Int32)) (m : Nat) : Nat × (Nat → Int32) := sp_pt (if 10 ≤ m then sp_pt t (48 + m / 10) else t) (48 + m % 10)
def sp_wlTo (r : Nat → Int32) (c : Nat) (t : Nat × (Nat → Int32)) : Nat → Nat × (Nat → Int32)
  | 0 => t
  | k + 1 => if r (142 + 4 * k) = nI c then sp_pn (sp_pt (sp_wlTo r c t k) 44) k else sp_wlTo r c t k
theorem sp_wlTo_t {r : Nat → Int32} {c k : Nat} {t : Nat × (Nat → Int32)} (h : r (142 + 4 * k) = nI c) : sp_wlTo r c t (k + 1) = sp_pn (sp_pt (sp_wlTo r c t k) 44) k := if_pos h
theorem sp_wlTo_f {r : Nat → Int32} {c k : Nat} {t : Nat × (Nat → Int32)} (h : ¬ r (142 + 4 * k) = nI c) : sp_wlTo r c t (k + 1) = sp_wlTo r c t k := if_neg h
def sp_w1 (r : Nat → Int32) (c : Nat) (t : Nat × (Nat → Int32)) : Nat × (Nat → Int32) := if r 4 = nI c then sp_pt t 42 else t
def sp_w2 (r : Nat → Int32) (c : Nat) (t : Nat × (Nat → Int32)) : Nat × (Nat → Int32) := sp_pn (sp_pt (sp_pn (sp_w1 r c t) (r (13 + 8 * c)).toNatClampNeg) 47) (r (12 + 8 * c)).toNatClampNeg
def sp_w3 (r : Nat → Int32) (c : Nat) (t : Nat × (Nat → Int32)) : Nat × (Nat → Int32) := if r (16 + 8 * c) < nI 3 then t else sp_pt t 33
def sp_line (r : Nat → Int32) (c : Nat) (t : Nat × (Nat → Int32)) : Nat × (Nat → Int32) := sp_pt (sp_w3 r c (sp_wlTo r c (sp_w2 r c t) (sp_nl r))) 10
def sp_textTo (r : Nat → Int32) : Nat → Nat × (Nat → Int32)
  | 0 => (0, fun _ => 0)
  | k + 1 => sp_line r k (sp_textTo r k)
def sp_text (r : Nat → Int32) : Nat × (Nat → Int32) := sp_textTo r (sp_nc r)
theorem sp_pt_n {t : Nat × (Nat → Int32)} {m : Nat} : (sp_pt t m).1 = t.1 + 1 := rfl
theorem sp_pn_n (t : Nat × (Nat → Int32)) (m : Nat) : (sp_pn t m).1 ≤ t.1 + 2 := by
  unfold sp_pn
  by_cases h : 10 ≤ m
  · rw [if_pos h]; exact Nat.le_refl _
  · rw [if_neg h, sp_pt_n]; omega
theorem sp_pn_small (t : Nat × (Nat → Int32)) {m : Nat} (h : m < 10) : (sp_pn t m).1 = t.1 + 1 := by
  unfold sp_pn
  rw [if_neg (by omega)]; rfl
/-- how many of the first k loads hang on camel c -/
def sp_hcnt (r : Nat → Int32) (c : Nat) : Nat → Nat
  | 0 => 0
  | k + 1 => if r (142 + 4 * k) = nI c then sp_hcnt r c k + 1 else sp_hcnt r c k
theorem sp_wlTo_n (r : Nat → Int32) (c : Nat) (t : Nat × (Nat → Int32)) (k : Nat) : (sp_wlTo r c t k).1 ≤ t.1 + 3 * sp_hcnt r c k := by
  induction k with
  | zero => exact Nat.le_refl _
  | succ k ih =>
    by_cases h : r (142 + 4 * k) = nI c
    · rw [sp_wlTo_t h]
      have e := sp_pn_n (sp_pt (sp_wlTo r c t k) 44) k
      rw [sp_pt_n] at e
      simp only [sp_hcnt, if_pos h]
      omega
    · rw [sp_wlTo_f h]
      simp only [sp_hcnt, if_neg h]
      exact ih
def sp_hsum (r : Nat → Int32) (k : Nat) : Nat → Nat
  | 0 => 0
  | c + 1 => sp_hsum r k c + sp_hcnt r c k
theorem sp_hsum_0 (r : Nat → Int32) (c : Nat) : sp_hsum r 0 c = 0 := by
  induction c with
  | zero => rfl
  | succ c ih => simp only [sp_hsum, sp_hcnt, ih]
theorem sp_hsum_s (r : Nat → Int32) (k c : Nat) (hc : c < 2 ^ 31) : sp_hsum r (k + 1) c ≤ sp_hsum r k c + 1 ∧ ((∀ j : Nat, j < c → r (142 + 4 * k) ≠ nI j) → sp_hsum r (k + 1) c = sp_hsum r k c) := by
  induction c with
  | zero => exact ⟨Nat.zero_le _, fun _ => rfl⟩
  | succ c ih =>
    have ih1 := ih (by omega)
    refine ⟨?_, fun h => ?_⟩
    · by_cases e : r (142 + 4 * k) = nI c
      · have h0 : sp_hsum r (k + 1) c = sp_hsum r k c := ih1.2 (fun j hj z => by
          have hz : c = j := nI_inj (by omega) (by omega) (e.symm.trans z)
          omega)
        have h1 : sp_hcnt r c (k + 1) = sp_hcnt r c k + 1 := if_pos e
        simp only [sp_hsum, h0, h1]
        omega
      · have h1 : sp_hcnt r c (k + 1) = sp_hcnt r c k := if_neg e
        simp only [sp_hsum, h1]
        have h2 := ih1.1
        omega
    · have h1 : sp_hcnt r c (k + 1) = sp_hcnt r c k := if_neg (h c (Nat.lt_succ_self c))
      simp only [sp_hsum, h1, ih1.2 (fun j hj => h j (Nat.lt_succ_of_lt hj))]
theorem sp_hsum_le (r : Nat → Int32) (k c : Nat) (hc : c < 2 ^ 31) : sp_hsum r k c ≤ k := by
  induction k with
  | zero => rw [sp_hsum_0]; exact Nat.le_refl _
  | succ k ih =>
    have h := (sp_hsum_s r k c hc).1
    omega
theorem sp_line_n (r : Nat → Int32) (c : Nat) (t : Nat × (Nat → Int32)) : (sp_line r c t).1 ≤ t.1 + 8 + 3 * sp_hcnt r c (sp_nl r) ∧ (sp_w2 r c t).1 ≤ t.1 + 6 := by
  have a1 : (sp_w1 r c t).1 ≤ t.1 + 1 := by
    unfold sp_w1
    by_cases h : r 4 = nI c
    · rw [if_pos h]; exact Nat.le_refl _
    · rw [if_neg h]; omega
  have a2 := sp_pn_n (sp_w1 r c t) (r (13 + 8 * c)).toNatClampNeg
  have a3 := sp_pn_n (sp_pt (sp_pn (sp_w1 r c t) (r (13 + 8 * c)).toNatClampNeg) 47) (r (12 + 8 * c)).toNatClampNeg
  rw [sp_pt_n] at a3
  have a4 : (sp_w2 r c t).1 ≤ t.1 + 6 := by unfold sp_w2; omega
  have a5 := sp_wlTo_n r c (sp_w2 r c t) (sp_nl r)
  have a6 : ∀ s : Nat × (Nat → Int32), (sp_w3 r c s).1 ≤ s.1 + 1 := fun s => by
    unfold sp_w3
    by_cases h : r (16 + 8 * c) < nI 3
    · rw [if_pos h]; omega
    · rw [if_neg h]; exact Nat.le_refl _
  have a7 := a6 (sp_wlTo r c (sp_w2 r c t) (sp_nl r))
  refine ⟨?_, a4⟩
  unfold sp_line
  rw [sp_pt_n]
  omega
theorem sp_textTo_n (r : Nat → Int32) (k : Nat) : (sp_textTo r k).1 ≤ 8 * k + 3 * sp_hsum r (sp_nl r) k := by
  induction k with
  | zero => exact Nat.le_refl _
  | succ k ih =>
    have h := (sp_line_n r k (sp_textTo r k)).1
    simp only [sp_textTo, sp_hsum]
    omega
/-- a line in the making never passes the room -/
theorem sp_text_room (r : Nat → Int32) {k : Nat} (hk : k < 10) (hl : sp_nl r ≤ 20) : (sp_textTo r k).1 + 8 + 3 * sp_hcnt r k (sp_nl r) ≤ 140 := by
  have h1 := sp_textTo_n r k
  have h2 := sp_hsum_le r (sp_nl r) (k + 1) (by omega)
  have h3 : sp_hsum r (sp_nl r) (k + 1) = sp_hsum r (sp_nl r) k + sp_hcnt r k (sp_nl r) := rfl
  omega
theorem sp_hcnt_s {r : Nat → Int32} {c k : Nat} (h : r (142 + 4 * k) = nI c) : sp_hcnt r c (k + 1) = sp_hcnt r c k + 1 := if_pos h
theorem sp_hcnt_mono (r : Nat → Int32) (c : Nat) {k n : Nat} (h : k ≤ n) : sp_hcnt r c k ≤ sp_hcnt r c n := by
  induction n with
  | zero => rw [show k = 0 by omega]; exact Nat.le_refl _
  | succ n ih =>
    by_cases e : k = n + 1
    · rw [e]; exact Nat.le_refl _
    · have h1 := ih (by omega)
      have h2 : sp_hcnt r c n ≤ sp_hcnt r c (n + 1) := by
        simp only [sp_hcnt]
        split <;> omega
      omega
/-- the bytes at an array are a text -/
def TxtAt (I : am_I) (a : Nat) (t : Nat × (Nat → Int32)) : Prop := ∀ j : Nat, j < t.1 → I a j = t.2 j
def WriRel (I : am_I) (w : Nat) (t : Nat × (Nat → Int32)) : Prop := I w 1 = nI t.1 ∧ TxtAt I (w + 1) t
theorem TxtAt_pt {I I' : am_I} {a : Nat} {t : Nat × (Nat → Int32)} {m : Nat} (h : TxtAt I a t) (ho : ∀ j : Nat, j ≠ t.1 → I' a j = I a j) (hn : I' a t.1 = nI m) : TxtAt I' a (sp_pt t m) := fun j hj => by
  by_cases e : j = t.1
  · subst e
    rw [hn]; exact (upd_eq).symm
  · have h1 : j < t.1 := by
      have : j < t.1 + 1 := hj
      omega
    rw [ho j e, h j h1]; exact (upd_ne e).symm
theorem nI_i2c {m : Nat} (h : m < 65536) : ((nI m).toUInt32 % 65536).toInt32 = nI m := by
  rw [pk_char, pk_tn (by omega), Nat.mod_eq_of_lt h]
theorem nI_i2b {m : Nat} (h : m < 128) : (nI m).toInt8.toInt32 = nI m := by
  have e : ∀ k : Fin 128, (nI k.val).toInt8.toInt32 = nI k.val := by decide
  exact e ⟨m, h⟩
