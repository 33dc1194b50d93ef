/-! ===== the text's tokens, from what it is made of ===== -/
/-- the text from place p on is l -/
def At (tb : Nat → Nat) (n p : Nat) (l : List Nat) : Prop := p + l.length = n ∧ ∀ j : Nat, j < l.length → tb (p + j) = gl l j
theorem At.tail {tb : Nat → Nat} {n p : Nat} {m l : List Nat} (h : At tb n p (m ++ l)) : At tb n (p + m.length) l := by
  obtain ⟨h1, h2⟩ := h
  rw [List.length_append] at h1 h2
  refine ⟨by omega, fun j hj => ?_⟩
  have e := h2 (m.length + j) (by omega)
  rw [gl_hi] at e
  rw [show p + m.length + j = p + (m.length + j) by omega]
  exact e
theorem At.hd {tb : Nat → Nat} {n p c : Nat} {l : List Nat} (h : At tb n p (c :: l)) : p < n ∧ tb p = c := by
  obtain ⟨h1, h2⟩ := h
  have e := h2 0 (by simp)
  simp only [List.length_cons] at h1
  exact ⟨by omega, e⟩
theorem At.get {tb : Nat → Nat} {n p : Nat} {m l : List Nat} (h : At tb n p (m ++ l)) {i : Nat} (hi : i < m.length) : tb (p + i) = gl m i := by
  have e := h.2 i (by rw [List.length_append]; omega)
  rw [gl_lo hi] at e
  exact e
def stopP (P : Nat → Bool) : List Nat → Prop
  | [] => True
  | c :: _ => P c = false
theorem run_end {P : Nat → Bool} {tb : Nat → Nat} {n : Nat} {l : List Nat} (hl : stopP P l) : ∀ (w : List Nat) (p : Nat), At tb n p (w ++ l) → (∀ c ∈ w, P c = true) → sp_end P tb n p = p + w.length := by
  intro w
  induction w with
  | nil =>
    intro p h _
    refine sp_end_f (fun z => ?_)
    cases l with
    | nil =>
      have := h.1
      simp at this
      omega
    | cons c t =>
      have e := (At.hd h).2
      rw [e] at z
      have q : P c = false := hl
      rw [q] at z
      exact Bool.false_ne_true z.2
  | cons c w ih =>
    intro p h hw
    obtain ⟨e1, e2⟩ := At.hd (l := w ++ l) h
    rw [sp_end_t ⟨e1, by rw [e2]; exact hw c List.mem_cons_self⟩, ih (p + 1) (At.tail (m := [c]) h) (fun x hx => hw x (List.mem_cons_of_mem _ hx)), List.length_cons]
    omega
theorem lex_0 {tb : Nat → Nat} {n p : Nat} {l : List Nat} (h : At tb n p l) (hl : stopP sp_isS l) : sp_tok tb n p = sp_tokAt tb n p := by
  unfold sp_tok
  rw [run_end hl [] p h (fun c hc => absurd hc List.not_mem_nil)]
  rfl
theorem lex_s {tb : Nat → Nat} {n p : Nat} {l : List Nat} (h : At tb n p (32 :: l)) (hl : stopP sp_isS l) : sp_tok tb n p = sp_tokAt tb n (p + 1) := by
  unfold sp_tok
  rw [run_end hl [32] p h (fun c hc => by rcases List.mem_cons.mp hc with e | e; (rw [e]; rfl); exact absurd e List.not_mem_nil)]
  rfl
theorem isS_of {c : Nat} (h : c ≠ 32 ∧ c ≠ 10) : sp_isS c = false := by
  unfold sp_isS
  exact decide_eq_false (by omega)
theorem isA_of {c : Nat} (h : 97 ≤ c ∧ c ≤ 122) : sp_isA c = true := sp_isA_iff.mpr h
theorem lex_word {tb : Nat → Nat} {n p : Nat} {w l : List Nat} (h : At tb n p (w ++ l)) (hw : ∀ c ∈ w, 97 ≤ c ∧ c ≤ 122) (h0 : w ≠ []) (hl : stopP sp_isA l) : sp_tokAt tb n p = (1, p, p + w.length, 0) := by
  cases w with
  | nil => exact absurd rfl h0
  | cons c t =>
    obtain ⟨e1, e2⟩ := At.hd (l := t ++ l) h
    rw [sp_tokAt_1 e1 (by rw [e2]; exact hw c List.mem_cons_self), run_end hl (c :: t) p h (fun x hx => isA_of (hw x hx))]
theorem lex_semi {tb : Nat → Nat} {n p : Nat} {l : List Nat} (h : At tb n p (59 :: l)) : sp_tokAt tb n p = (3, p, p + 1, 0) := by
  obtain ⟨e1, e2⟩ := At.hd h
  rw [sp_tokAt_3 e1 (by omega) (by omega), if_pos e2]
theorem DL_dig {v : Nat} (h : v < 1000) : ∀ c ∈ DL v, sp_isD c = true := by
  intro c hc
  unfold DL at hc
  refine sp_isD_iff.mpr ?_
  by_cases h1 : v < 10
  · rw [if_pos h1] at hc
    simp at hc
    omega
  · rw [if_neg h1] at hc
    by_cases h2 : v < 100
    · rw [if_pos h2] at hc
      simp at hc
      omega
    · rw [if_neg h2] at hc
      simp at hc
      omega
theorem lex_num {tb : Nat → Nat} {n p v : Nat} {l : List Nat} (h : At tb n p (DL v ++ l)) (hv : v < 1000) (hl : stopP sp_isD l) : sp_tokAt tb n p = (2, p, p + (DL v).length, v) := by
  have hd := dg3_le v
  have hlen := DL_len v
  have e0 := At.get h (i := 0) (by omega)
  have hp : p < n := by have := h.1; rw [List.length_append] at this; omega
  have hdig : 48 ≤ tb p ∧ tb p ≤ 57 := by
    have e := DL_dig hv (gl (DL v) 0) (by unfold gl; rw [List.getD_eq_getElem?_getD, List.getElem?_eq_getElem (by omega)]; exact List.getElem_mem _)
    rw [← e0] at e
    exact sp_isD_iff.mp e
  rw [sp_tokAt_2 hp hdig, run_end hl (DL v) p h (DL_dig hv), show p + (DL v).length - p = (DL v).length by omega, if_pos (by omega), show min 3 (DL v).length = (DL v).length by omega]
  congr 3
  by_cases h1 : v < 10
  · have e : DL v = [48 + v] := if_pos h1
    rw [e] at e0 ⊢
    have q0 : tb p = 48 + v := e0
    show 0 * 10 + (tb (p + 0) - 48) = v
    rw [Nat.add_zero, q0]
    omega
  · by_cases h2 : v < 100
    · have e : DL v = [48 + v / 10, 48 + v % 10] := by unfold DL; rw [if_neg h1, if_pos h2]
      have e1 := At.get h (i := 1) (by simp [e])
      rw [e] at e0 e1 ⊢
      have q0 : tb (p + 0) = 48 + v / 10 := e0
      have q1 : tb (p + 1) = 48 + v % 10 := e1
      show (0 * 10 + (tb (p + 0) - 48)) * 10 + (tb (p + 1) - 48) = v
      rw [q0, q1]
      omega
    · have e : DL v = [48 + v / 100, 48 + v % 100 / 10, 48 + v % 10] := by unfold DL; rw [if_neg h1, if_neg h2]
      have e1 := At.get h (i := 1) (by simp [e])
      have e2 := At.get h (i := 2) (by simp [e])
      rw [e] at e0 e1 e2 ⊢
      have q0 : tb (p + 0) = 48 + v / 100 := e0
      have q1 : tb (p + 1) = 48 + v % 100 / 10 := e1
      have q2 : tb (p + 2) = 48 + v % 10 := e2
      show ((0 * 10 + (tb (p + 0) - 48)) * 10 + (tb (p + 1) - 48)) * 10 + (tb (p + 2) - 48) = v
      rw [q0, q1, q2]
      omega
theorem DL_stop {v : Nat} (h : v < 1000) (l : List Nat) : stopP sp_isS (DL v ++ l) := by
  unfold DL
  by_cases h1 : v < 10
  · rw [if_pos h1]; exact isS_of (by omega)
  · rw [if_neg h1]
    by_cases h2 : v < 100
    · rw [if_pos h2]; exact isS_of (by omega)
    · rw [if_neg h2]; exact isS_of (by omega)
/-- a number behind a space -/
theorem st_num {tb : Nat → Nat} {n p v : Nat} {l : List Nat} (h : At tb n p (32 :: (DL v ++ l))) (hv : v < 1000) (hl : stopP sp_isD l) : ∃ q : Nat, sp_tok tb n p = (2, p + 1, q, v) ∧ At tb n q l := by
  have h1 : At tb n (p + 1) (DL v ++ l) := At.tail (m := [32]) h
  exact ⟨_, by rw [lex_s h (DL_stop hv l), lex_num h1 hv hl], h1.tail⟩
theorem st_semi {tb : Nat → Nat} {n p : Nat} {l : List Nat} (h : At tb n p (59 :: l)) : ∃ q : Nat, sp_tok tb n p = (3, p, q, 0) ∧ At tb n q l := ⟨_, by rw [lex_0 h (isS_of ⟨by decide, by decide⟩), lex_semi h]; rfl, At.tail (m := [59]) h⟩
theorem st_word {tb : Nat → Nat} {n p c : Nat} {w l : List Nat} (h : At tb n p ((c :: w) ++ 32 :: l)) (hw : ∀ x ∈ c :: w, 97 ≤ x ∧ x ≤ 122) : ∃ q : Nat, sp_tok tb n p = (1, p, q, 0) ∧ q = p + (c :: w).length ∧ At tb n q (32 :: l) := by
  have hc := hw c List.mem_cons_self
  exact ⟨_, by rw [lex_0 h (isS_of (by omega)), lex_word h hw (by simp) (show sp_isA 32 = false from by decide)], rfl, h.tail⟩
theorem st_sword {tb : Nat → Nat} {n p c : Nat} {w l : List Nat} (h : At tb n p (32 :: ((c :: w) ++ 32 :: l))) (hw : ∀ x ∈ c :: w, 97 ≤ x ∧ x ≤ 122) : ∃ q : Nat, sp_tok tb n p = (1, p + 1, q, 0) ∧ q = p + 1 + (c :: w).length ∧ At tb n q (32 :: l) := by
  have hc := hw c List.mem_cons_self
  have h1 : At tb n (p + 1) ((c :: w) ++ 32 :: l) := At.tail (m := [32]) h
  exact ⟨_, by rw [lex_s h (isS_of (by omega)), lex_word h1 hw (by simp) (show sp_isA 32 = false from by decide)], rfl, h1.tail⟩
theorem st_end {tb : Nat → Nat} {n p : Nat} (h : At tb n p []) : sp_tok tb n p = (0, p, p, 0) := by
  rw [lex_0 h trivial, sp_tokAt_0 (by have := h.1; simp at this; omega)]
/-- the rest doesn't begin with c0 -/
def FC (l : List Nat) (c0 : Nat) : Prop := l = [] ∨ ∃ (c : Nat) (t : List Nat), l = c :: t ∧ c ≠ c0 ∧ 97 ≤ c ∧ c ≤ 122
theorem FC_no {tb : Nat → Nat} {n p c0 si : Nat} {l : List Nat} (h : At tb n p l) (hf : FC l c0) (h0 : 0 < am_slen.getD si 0) (hc : am_ch si 0 = nI c0) (hc0 : c0 < 128) : ¬ sp_isw tb (sp_tok tb n p) si = true := by
  intro z
  obtain ⟨z1, z2, z3⟩ := sp_isw_iff.mp z
  rcases hf with rfl | ⟨c, t, rfl, hne, h1, h2⟩
  · rw [st_end h] at z1
    cases z1
  · obtain ⟨e1, e2⟩ := At.hd h
    have e3 : sp_tok tb n p = sp_tokAt tb n p := lex_0 h (isS_of (by omega))
    rw [e3, sp_tokAt_1 e1 (by rw [e2]; exact ⟨h1, h2⟩)] at z3
    have := z3 0 h0
    rw [hc] at this
    have e4 : tb (p + 0) = c := e2
    have e5 : nI (tb (p + 0)) = nI c0 := this
    rw [e4] at e5
    exact hne (nI_inj (by omega) (by omega) e5)
