/-! ===== the law's entry: the script, the object at its start ===== -/
theorem ki_L_279 : Cond.constant RL 279 (2147483647 : Int32) ∈ am_tbl := am_wd 1305 (by decide +kernel) rfl
/-- the script -/
def LSc (G : am_G) (X : am_X) (b L : Nat) (xs : Nat → Int32) : Prop := va_X b L xs X.2.2.1 X.2.2.1.heap ∧ b < X.2.2.1.heap.size ∧ ¬ am_A G b
section LAWZ
variable {G : am_G} {X : am_X} {R : Room} {own : String} {cc : ByteArray} {nL : Nat} {ret : Option FieldType} {tb : List ExceptionTableEntry} {Q : State → Prop}
variable {Λ : am_L} {I : am_I} {J : am_J} {k n pc : Nat} {ls : List (Nat × Value)} {st : List Value}
theorem k_sld (C : am_Cx G X own cc nL ret tb Q) {b L j : Nat} {xs : Nat → Int32} {i : Int32} (S : LSc G X b L xs) (hL : L ≤ 3072) (hi : i = nI j) (hj : j < L) (hd : decode cc pc = .ok (.iaload, 1)) (kk : am_K G X R nL Λ I J k n (pc + 1) ls (.int (xs j) :: st)) : am_K G X R nL Λ I J k n pc ls (.int i :: .ref b :: st) := fun H locs la hR hS hl => by
  subst hi
  refine va_sld C.hx C.hb S.1 S.2.1 S.2.2 hS (vp_in_nI hj (by omega)) hd ?_
  rw [nI_clamp (by omega)]
  exact kk H locs la hR hS hl
theorem k_slenA (C : am_Cx G X own cc nL ret tb Q) {b L : Nat} {xs : Nat → Int32} (S : LSc G X b L xs) (hd : decode cc pc = .ok (.arraylength, 1)) (kk : am_K G X R nL Λ I J k n (pc + 1) ls (.int (nI L) :: st)) : am_K G X R nL Λ I J k n pc ls (.ref b :: st) := fun H locs la hR hS hl =>
  va_slen C.hx C.hb S.1 S.2.1 S.2.2 hS hd (kk H locs la hR hS hl)
theorem k_ldcwI (C : am_Cx G X own cc nL ret tb Q) {idx : Nat} {v : Int32} (hw : Cond.constant own idx v ∈ am_tbl) (hd : decode cc pc = .ok (.ldc_w idx, 3)) (kk : am_K G X R nL Λ I J k n (pc + 3) ls (.int v :: st)) : am_K G X R nL Λ I J k n (pc) ls (st) := fun H locs la hR hS hl => lv_ldcw C.hx C.hb C.ho (C.ht _ hw) hd (kk H locs la hR hS hl)
end LAWZ
def fr_l : List (Nat × Int32) := [(0, 200), (1, 0), (2, 0), (3, 0), (4, 0), (6, 3), (7, 2), (9, 3), (11, 3), (19, 5), (27, 2), (14, 0), (15, 0), (16, 0), (22, 0), (23, 0), (24, 0), (30, 0), (31, 0), (32, 0), (90, 30), (94, 90), (142, 1), (146, 1), (150, -1), (151, 0)]
set_option maxRecDepth 100000 in
theorem fr_chk : (match sp_parse fr_tb 134 with | .ok r => fr_l.all (fun q => decide (r q.1 = q.2)) && decide (sp_car r 0 = nI 0) && decide (sp_car r 1 = nI 75) && decide (sp_car r 2 = nI 0) && decide (sp_free r 1 = nI 25) | .error _ => false) = true := by decide +kernel
/-- the caravan of a new object is legal -/
theorem fr_leg {r : Nat → Int32} (h : sp_parse fr_tb 134 = .ok r) : Leg r ∧ sp_nc r = 3 ∧ sp_nw r = 2 ∧ sp_nl r = 3 ∧ r 0 = nI 200 ∧ sp_free r 1 = nI 25 := by
  have c := fr_chk
  rw [h] at c
  simp only [Bool.and_eq_true, decide_eq_true_eq, List.all_eq_true] at c
  obtain ⟨⟨⟨⟨c0, c1⟩, c2⟩, c3⟩, c4⟩ := c
  have e : ∀ (k : Nat) (v : Int32), (k, v) ∈ fr_l → r k = v := fun k v hm => c0 (k, v) hm
  have nc : sp_nc r = 3 := by unfold sp_nc; rw [e 6 3 (by decide +kernel)]; rfl
  have nw : sp_nw r = 2 := by unfold sp_nw; rw [e 7 2 (by decide +kernel)]; rfl
  have nl : sp_nl r = 3 := by unfold sp_nl; rw [e 9 3 (by decide +kernel)]; rfl
  refine ⟨⟨rowok_parse h, ?_, ?_, ?_, ?_, ?_, ?_⟩, nc, nw, nl, e 0 200 (by decide +kernel), c4⟩
  · intro i j hi hj he
    rw [nw] at hi hj
    rcases (show i = 0 ∨ i = 1 by omega) with rfl | rfl <;> rcases (show j = 0 ∨ j = 1 by omega) with rfl | rfl
    · rfl
    · exact absurd ((e 90 30 (by decide +kernel)).symm.trans (he.trans (e 94 90 (by decide +kernel)))) (by decide)
    · exact absurd ((e 94 90 (by decide +kernel)).symm.trans (he.trans (e 90 30 (by decide +kernel)))) (by decide)
    · rfl
  · refine ⟨0, e 2 0 (by decide +kernel), Nat.zero_le _, fun k hk => ?_⟩
    rw [nc] at hk
    rcases (show k = 0 ∨ k = 1 ∨ k = 2 by omega) with rfl | rfl | rfl
    · exact ⟨⟨0, e 14 0 (by decide +kernel), by omega, by omega⟩, ⟨0, e 15 0 (by decide +kernel), by omega, by omega⟩⟩
    · exact ⟨⟨0, e 22 0 (by decide +kernel), by omega, by omega⟩, ⟨0, e 23 0 (by decide +kernel), by omega, by omega⟩⟩
    · exact ⟨⟨0, e 30 0 (by decide +kernel), by omega, by omega⟩, ⟨0, e 31 0 (by decide +kernel), by omega, by omega⟩⟩
  · intro k hk
    rw [nc] at hk
    rcases (show k = 0 ∨ k = 1 ∨ k = 2 by omega) with rfl | rfl | rfl
    · exact ⟨3, 0, e 11 3 (by decide +kernel), by omega, c1, by omega⟩
    · exact ⟨5, 75, e 19 5 (by decide +kernel), by omega, c2, by omega⟩
    · exact ⟨2, 0, e 27 2 (by decide +kernel), by omega, c3, by omega⟩
  · intro k j hk hj he
    rw [nc] at hj
    rcases (show j = 0 ∨ j = 1 ∨ j = 2 by omega) with rfl | rfl | rfl
    · rw [e 16 0 (by decide +kernel)]; decide
    · rw [e 24 0 (by decide +kernel)]; decide
    · rw [e 32 0 (by decide +kernel)]; decide
  · intro k hk he
    rw [nl] at hk
    rcases (show k = 0 ∨ k = 1 ∨ k = 2 by omega) with rfl | rfl | rfl
    · exact absurd ((e 142 1 (by decide +kernel)).symm.trans he) (by decide)
    · exact absurd ((e 146 1 (by decide +kernel)).symm.trans he) (by decide)
    · exact ⟨0, 0, e 151 0 (by decide +kernel), e 1 0 (by decide +kernel), by omega, by omega⟩
  · intro _
    exact ⟨0, e 4 0 (by decide +kernel), by omega, by rw [e 16 0 (by decide +kernel)]; decide⟩
theorem Rou_far {Λ : am_L} {x s : Nat} (hx : RouLay Λ x) (h : (Λ.1 s).1 = 0) : s < x ∨ x + 173 ≤ s := by
  by_cases e : x ≤ s ∧ s < x + 173
  · exact absurd h (Rou_nz hx e.1 e.2)
  · omega
theorem ct_n13 {G : am_G} {Λ : am_L} {I : am_I} {J : am_J} {x : Nat} (hx : RouLay Λ x) (he : I x 1 = -1) : am_Ct G yL_call__ cL_call__ 3 (some .int) { frames := 11, cells := 6, slots := 36, locals := 260 } [.ref x, .int (nI 13), .int (nI 0)] Λ I J (am_pure (.int (-101)) Λ I J) am_never := by
  have h := ct_L_call__ (G := G) (Λ := Λ) (I := I) (J := J) (ct_c13 (u1 := nI 0) (u2 := nI 0) (u3 := nI 0) (u4 := nI 0) (u5 := nI 0) hx he) am_pure_int
  rw [if_neg (by decide)] at h
  exact h
theorem ct_n41 {G : am_G} {Λ : am_L} {I : am_I} {J : am_J} {x : Nat} {f : Nat → Int32} (hx : RouLay Λ x) (ht : WriRel I (x + 171) (0, f)) : am_Ct G yL_call__ cL_call__ 3 (some .int) { frames := 11, cells := 6, slots := 36, locals := 260 } [.ref x, .int (nI 41), .int (nI 0)] Λ I J (am_pure (.int (-104)) Λ I J) am_never := by
  have h := ct_L_call__ (G := G) (Λ := Λ) (I := I) (J := J) (ct_c41 (i := nI 0) (u1 := nI 0) (u2 := nI 0) (u3 := nI 0) (u4 := nI 0) hx ht (Nat.zero_le _)) am_pure_int
  rw [if_neg (show ¬ (if nI 0 < 0 ∨ ¬ nI 0 < nI 0 then 1 else 0) = 0 by decide)] at h
  exact h
theorem inc2 (i : Nat) : nI (2 * i) + Int32.ofInt 2 = nI (2 * (i + 1)) := by
  rw [show (Int32.ofInt 2) = nI 2 from rfl, nI_add, show 2 * i + 2 = 2 * (i + 1) by omega]
theorem LSt_less {r : Nat → Int32} {ct ct2 : Nat} {hs : Nat → Nat → Int32} {kp : Nat → Bool} {sn : Nat → Nat → Int32} (h : LSt r ct hs kp sn) (hc : ct2 ≤ ct) : LSt r ct2 hs kp sn := ⟨h.1, fun s hs' => h.2.1 s (by omega), h.2.2⟩
theorem LSt_new {r : Nat → Int32} {hs : Nat → Nat → Int32} {kp : Nat → Bool} {sn : Nat → Nat → Int32} (h : Leg r) (hk : kp = fun _ => false) : LSt r 0 hs kp sn := ⟨h, fun s hs' => absurd hs' (Nat.not_lt_zero s), fun i _ q => by rw [hk] at q; cases q⟩
theorem LK.at {x z : Nat} {s : Nat × Nat} {Λ Λ1 : am_L} {I I1 : am_I} (h : LK x Λ I Λ1 I1) (hz : Λ.1 z = s) (hs : s.1 ≠ 0) : Λ1.1 z = s := (h z (by rw [hz]; exact hs)).1.trans hz
