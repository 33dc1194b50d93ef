/-! ===== a text as a list of bytes, and the builder that grows it ===== -/
def gl (l : List Nat) : Nat → Nat := fun j => l.getD j 0
def DL (v : Nat) : List Nat := if v < 10 then [48 + v] else if v < 100 then [48 + v / 10, 48 + v % 10] else [48 + v / 100, 48 + v % 100 / 10, 48 + v % 10]
theorem DL_len (v : Nat) : (DL v).length = dg3 v := by
  unfold DL dg3
  split
  · rfl
  · split <;> rfl
theorem DL_le2 {v : Nat} (h : v < 100) : (DL v).length ≤ 2 := by
  rw [DL_len]; unfold dg3
  split
  · omega
  · first | omega | (rw [if_pos h]; omega)
theorem DL_1 {v : Nat} (h : v < 10) : (DL v).length = 1 := by rw [DL_len]; exact if_pos h
theorem DL_get {v i : Nat} (h : i < dg3 v) : dx3 v i = gl (DL v) i := by
  unfold dg3 at h
  unfold dx3 gl DL
  by_cases h1 : v < 10
  · rw [if_pos h1] at h
    rw [if_pos h1, if_pos h1]
    obtain rfl : i = 0 := by omega
    rfl
  · rw [if_neg h1] at h
    rw [if_neg h1, if_neg h1]
    by_cases h2 : v < 100
    · rw [if_pos h2] at h
      rw [if_pos h2, if_pos h2]
      rcases (show i = 0 ∨ i = 1 by omega) with rfl | rfl <;> rfl
    · rw [if_neg h2] at h
      rw [if_neg h2, if_neg h2]
      rcases (show i = 0 ∨ i = 1 ∨ i = 2 by omega) with rfl | rfl | rfl <;> rfl
theorem gl_lo {l m : List Nat} {j : Nat} (h : j < l.length) : gl (l ++ m) j = gl l j := by
  unfold gl
  rw [List.getD_eq_getElem?_getD, List.getD_eq_getElem?_getD, List.getElem?_append_left h]
theorem gl_hi {l m : List Nat} {j : Nat} : gl (l ++ m) (l.length + j) = gl m j := by
  unfold gl
  rw [List.getD_eq_getElem?_getD, List.getD_eq_getElem?_getD, List.getElem?_append_right (by omega), Nat.add_sub_cancel_left]
theorem cat_gl {l m : List Nat} {sx : Nat → Nat} (hs : ∀ i : Nat, i < m.length → sx i = gl m i) : ∀ j : Nat, j < l.length + m.length → sb_cat (gl l) l.length sx j = gl (l ++ m) j := by
  intro j hj
  by_cases h : j < l.length
  · rw [sb_cat_lo h, gl_lo h]
  · have e := sb_cat_hi (t := gl l) (s := sx) (n := l.length) (j := j - l.length)
    have e2 := gl_hi (l := l) (m := m) (j := j - l.length)
    rw [show l.length + (j - l.length) = j by omega] at e e2
    rw [e, e2, hs _ (by omega)]
def SbL (Λ : am_L) (I : am_I) (b v cap : Nat) (l : List Nat) : Prop := SbAt Λ I b v cap l.length (gl l)
theorem SbAt.toL {Λ : am_L} {I : am_I} {b v cap w : Nat} {l m : List Nat} {sx : Nat → Nat} (hw : w = m.length) (hs : ∀ i : Nat, i < m.length → sx i = gl m i) (h : SbAt Λ I b v cap (l.length + w) (sb_cat (gl l) l.length sx)) : SbL Λ I b v cap (l ++ m) := by
  subst hw
  obtain ⟨a1, a2, a3, a4, a5, a6, a7⟩ := h
  exact ⟨a1, a2, a3, by rw [List.length_append]; exact a4, by rw [List.length_append]; exact a5, a6, fun j hj => by rw [List.length_append] at hj; rw [a7 j hj, cat_gl hs j hj]⟩
def CsL (i : Nat) (m : List Nat) : Prop := CsOk i m.length (gl m)
/-- a builder that was made after the rest, and an array of five ints beside it -/
def RB (Λ0 : am_L) (I0 : am_I) (Λ : am_L) (I : am_I) (b v cap : Nat) (l : List Nat) : Prop := KPs Λ0 I0 Λ I ∧ (Λ0.1 b).1 = 0 ∧ (Λ0.1 v).1 = 0 ∧ cap ≤ 700 ∧ SbL Λ I b v cap l
theorem RB.step {Λ0 Λ Λ2 : am_L} {I0 I I2 : am_I} {b v cap v2 cap2 : Nat} {l l2 : List Nat} (h : RB Λ0 I0 Λ I b v cap l) (hk : SKp b v Λ I Λ2 I2) (hv : v2 = v ∨ (Λ.1 v2).1 = 0) (hc : cap2 ≤ 700) (hs : SbL Λ2 I2 b v2 cap2 l2) : RB Λ0 I0 Λ2 I2 b v2 cap2 l2 := by
  obtain ⟨h1, h2, h3, h4, h5⟩ := h
  refine ⟨fun a ha => ?_, h2, ?_, hc, hs⟩
  · obtain ⟨a1, a2, a3⟩ := h1 a ha
    obtain ⟨b1, b2⟩ := hk a (by rw [a1]; exact ha)
    have nb : a ≠ b := fun e => ha (by rw [e]; exact h2)
    have nv : a ≠ v := fun e => ha (by rw [e]; exact h3)
    exact ⟨b1.trans a1, (b2 nb).1.trans a2, ((b2 nb).2 nv).trans a3⟩
  · rcases hv with hv | hv
    · rw [hv]; exact h3
    · by_cases e : (Λ0.1 v2).1 = 0
      · exact e
      · rw [(h1 v2 e).1] at hv; exact absurd hv e
def AF (Λ0 : am_L) (Λ : am_L) (I : am_I) (f : Nat) (fr : Nat → Nat) : Prop := Λ.1 f = (2, 5) ∧ (Λ0.1 f).1 = 0 ∧ ∀ j : Nat, j < 5 → I f j = nI (fr j)
theorem AF.step {Λ0 Λ Λ2 : am_L} {I I2 : am_I} {b v cap f : Nat} {l : List Nat} {fr : Nat → Nat} (h : AF Λ0 Λ I f fr) (hs : SbL Λ I b v cap l) (hk : SKp b v Λ I Λ2 I2) : AF Λ0 Λ2 I2 f fr := by
  obtain ⟨h1, h2, h3⟩ := h
  obtain ⟨b1, b2⟩ := hk f (by rw [h1]; exact Nat.succ_ne_zero _)
  have nb : f ≠ b := fun e => by have e1 := hs.1; rw [← e, h1] at e1; cases e1
  have nv : f ≠ v := fun e => by have e1 := hs.2.2.2.2.2.1.1; rw [← e, h1] at e1; cases e1
  exact ⟨b1.trans h1, h2, fun j hj => by rw [(b2 nb).2 nv]; exact h3 j hj⟩
theorem AF.keep {Λ0 Λ Λ2 : am_L} {I I2 : am_I} {f : Nat} {fr : Nat → Nat} (h : AF Λ0 Λ I f fr) (hk : KPs Λ I Λ2 I2) : AF Λ0 Λ2 I2 f fr := by
  obtain ⟨h1, h2, h3⟩ := h
  obtain ⟨b1, b2, b3⟩ := hk f (by rw [h1]; exact Nat.succ_ne_zero _)
  exact ⟨b1.trans h1, h2, fun j hj => by rw [b3]; exact h3 j hj⟩
theorem RB.keep {Λ0 Λ Λ2 : am_L} {I0 I I2 : am_I} {b v cap : Nat} {l : List Nat} (h : RB Λ0 I0 Λ I b v cap l) (hk : KPs Λ I Λ2 I2) : RB Λ0 I0 Λ2 I2 b v cap l := by
  obtain ⟨h1, h2, h3, h4, a1, a2, a3, a4, a5, a6, a7⟩ := h
  obtain ⟨p1, p2, p3⟩ := hk b (by rw [a1]; exact Nat.one_ne_zero)
  obtain ⟨q1, q2, q3⟩ := hk v (by rw [a6.1]; exact Nat.succ_ne_zero _)
  exact ⟨h1.tr hk, h2, h3, h4, p1.trans a1, by rw [p2]; exact a2, by rw [p3]; exact a3, by rw [p3]; exact a4, a5, ⟨q1.trans a6.1, a6.2.1, fun j hj => by rw [q3]; exact a6.2.2 j hj⟩, fun j hj => by rw [q3]; exact a7 j hj⟩
/-- the array is written -/
theorem RB.up {Λ0 Λ : am_L} {I0 I : am_I} {b v cap f k : Nat} {x : Int32} {l : List Nat} {fr : Nat → Nat} (h : RB Λ0 I0 Λ I b v cap l) (ha : AF Λ0 Λ I f fr) : RB Λ0 I0 Λ (am_up I f k x) b v cap l := by
  obtain ⟨h1, h2, h3, h4, a1, a2, a3, a4, a5, a6, a7⟩ := h
  have nb : b ≠ f := fun e => by have e1 := ha.1; rw [← e, a1] at e1; cases e1
  have nv : v ≠ f := fun e => by have e1 := ha.1; rw [← e, a6.1] at e1; cases e1
  refine ⟨fun a q => ?_, h2, h3, h4, a1, a2, by rw [am_up_ne nb]; exact a3, by rw [am_up_ne nb]; exact a4, a5, ⟨a6.1, a6.2.1, fun j hj => by rw [am_up_ne nv]; exact a6.2.2 j hj⟩, fun j hj => by rw [am_up_ne nv]; exact a7 j hj⟩
  obtain ⟨p1, p2, p3⟩ := h1 a q
  exact ⟨p1, p2, (am_up_ne (fun e => q (by rw [e]; exact ha.2.1))).trans p3⟩
theorem AF.up {Λ0 Λ : am_L} {I : am_I} {f k x : Nat} {fr : Nat → Nat} (h : AF Λ0 Λ I f fr) : AF Λ0 Λ (am_up I f k (nI x)) f (fun j => if j = k then x else fr j) := by
  refine ⟨h.1, h.2.1, fun j hj => ?_⟩
  by_cases e : j = k
  · subst e
    show _ = nI (if j = j then x else fr j)
    rw [am_up_eq, if_pos rfl]
  · show _ = nI (if j = k then x else fr j)
    rw [am_up_n2 (fun z => e z.2), if_neg e]; exact h.2.2 j hj
def W1 : List Nat := [114, 111, 117, 116, 101, 32]
def W2 : List Nat := [99, 97, 109, 101, 108, 32]
def W3 : List Nat := [119, 101, 108, 108, 32]
def W4 : List Nat := [115, 116, 111, 114, 109, 32]
def W5 : List Nat := [108, 111, 97, 100, 32]
def W6 : List Nat := [32, 111, 110, 32]
def W7 : List Nat := [59]
theorem cs_1 : CsL 35 W1 := ⟨by decide, by decide +kernel, by decide, by decide +kernel⟩
theorem cs_2 : CsL 36 W2 := ⟨by decide, by decide +kernel, by decide, by decide +kernel⟩
theorem cs_3 : CsL 37 W3 := ⟨by decide, by decide +kernel, by decide, by decide +kernel⟩
theorem cs_4 : CsL 38 W4 := ⟨by decide, by decide +kernel, by decide, by decide +kernel⟩
theorem cs_5 : CsL 39 W5 := ⟨by decide, by decide +kernel, by decide, by decide +kernel⟩
theorem cs_6 : CsL 40 W6 := ⟨by decide, by decide +kernel, by decide, by decide +kernel⟩
theorem cs_7 : CsL 41 W7 := ⟨by decide, by decide +kernel, by decide, by decide +kernel⟩
/-- the lines of a text -/
def lnR (L : Nat) : List Nat := W1 ++ DL L ++ [59]
def lnC (a b c : Nat) : List Nat := W2 ++ DL a ++ [32] ++ DL b ++ [32] ++ DL c ++ [59]
def lnW (a b c : Nat) : List Nat := W3 ++ DL a ++ [32] ++ DL b ++ [32] ++ DL c ++ [59]
def lnS (a b c : Nat) : List Nat := W4 ++ DL a ++ [32] ++ DL b ++ [32] ++ DL c ++ [59]
def lnL (a b : Nat) : Option Nat → List Nat
  | none => W5 ++ DL a ++ [32] ++ DL b ++ [59]
  | some j => W5 ++ DL a ++ [32] ++ DL b ++ (W6 ++ DL j ++ [59])
def lnCs : List (Nat × Nat × Nat) → List Nat
  | [] => []
  | (a, b, c) :: t => lnC a b c ++ lnCs t
def lnWs : List (Nat × Nat × Nat) → List Nat
  | [] => []
  | (a, b, c) :: t => lnW a b c ++ lnWs t
def lnSs : List (Nat × Nat × Nat) → List Nat
  | [] => []
  | (a, b, c) :: t => lnS a b c ++ lnSs t
def lnLs : List (Nat × Nat × Option Nat) → List Nat
  | [] => []
  | (a, b, o) :: t => lnL a b o ++ lnLs t
theorem lnCs_app {a b c : Nat} : ∀ t : List (Nat × Nat × Nat), lnCs (t ++ [(a, b, c)]) = lnCs t ++ lnC a b c
  | [] => by simp [lnCs]
  | (x, y, z) :: t => by simp [lnCs, lnCs_app t]
theorem lnWs_app {a b c : Nat} : ∀ t : List (Nat × Nat × Nat), lnWs (t ++ [(a, b, c)]) = lnWs t ++ lnW a b c
  | [] => by simp [lnWs]
  | (x, y, z) :: t => by simp [lnWs, lnWs_app t]
theorem lnSs_app {a b c : Nat} : ∀ t : List (Nat × Nat × Nat), lnSs (t ++ [(a, b, c)]) = lnSs t ++ lnS a b c
  | [] => by simp [lnSs]
  | (x, y, z) :: t => by simp [lnSs, lnSs_app t]
theorem lnLs_app {a b : Nat} {o : Option Nat} : ∀ t : List (Nat × Nat × Option Nat), lnLs (t ++ [(a, b, o)]) = lnLs t ++ lnL a b o
  | [] => by simp [lnLs]
  | (x, y, z) :: t => by simp [lnLs, lnLs_app t]
