/-! ===== the law: all that is kept stays legal ===== -/
def LSt (r : Nat → Int32) (ct : Nat) (hs : Nat → Nat → Int32) (kp : Nat → Bool) (sn : Nat → Nat → Int32) : Prop := Leg r ∧ (∀ s : Nat, s < ct → Leg (hs s)) ∧ ∀ i : Nat, i < 2 → kp i = true → Leg (sn i)
theorem LSt_push {r r2 : Nat → Int32} {ct : Nat} {hs : Nat → Nat → Int32} {kp : Nat → Bool} {sn : Nat → Nat → Int32} (h : LSt r ct hs kp sn) (h2 : Leg r2) : LSt r2 (min 8 (ct + 1)) (sp_push r hs) kp sn := by
  refine ⟨h2, fun s hs' => ?_, h.2.2⟩
  unfold sp_push
  by_cases e : s = 0
  · rw [if_pos e]; exact h.1
  · rw [if_neg e]; exact h.2.1 _ (by omega)
theorem LSt_stop {I' : am_I} {x n ct c2 : Nat} {tb : Nat → Nat} {err b : Int32} {r : Nat → Int32} {hs hs2 : Nat → Nat → Int32} {kp kp2 : Nat → Bool} {sn sn2 : Nat → Nat → Int32} {w : Nat × (Nat → Int32)} (h : LSt r ct hs kp sn) (_ : RouRel I' x tb n err (upd r 3 b) c2 hs2 kp2 sn2 w) (hb : b = 0 ∨ b = 1) : LSt (upd r 3 b) (min 8 (ct + 1)) (sp_push r hs) kp sn := LSt_push h (Leg_stop h.1 hb)
theorem LSt_undo {r : Nat → Int32} {ct : Nat} {hs : Nat → Nat → Int32} {kp : Nat → Bool} {sn : Nat → Nat → Int32} (h : LSt r ct hs kp sn) (hc : ¬ ct = 0) : LSt (hs 0) (ct - 1) (fun s => hs (s + 1)) kp sn := ⟨h.2.1 0 (by omega), fun s hs' => h.2.1 (s + 1) (by omega), h.2.2⟩
theorem LSt_save {r : Nat → Int32} {ct e : Nat} {hs : Nat → Nat → Int32} {kp : Nat → Bool} {sn : Nat → Nat → Int32} (h : LSt r ct hs kp sn) : LSt r ct hs (fun i => if i = e then true else kp i) (fun i => if i = e then r else sn i) := by
  refine ⟨h.1, h.2.1, fun i hi hk => ?_⟩
  show Leg (if i = e then r else sn i)
  by_cases q : i = e
  · rw [if_pos q]; exact h.1
  · rw [if_neg q]
    refine h.2.2 i hi ?_
    have : (if i = e then true else kp i) = true := hk
    rw [if_neg q] at this
    exact this
theorem max1_v {n : Nat} (h : n < 2 ^ 31) : (if nI 1 < nI n then nI n else nI 1) = nI (max 1 n) := by
  by_cases e : 1 < n
  · rw [if_pos (nI_lt e h), show max 1 n = n by omega]
  · rw [if_neg (nI_nlt (by omega) (by omega)), show max 1 n = 1 by omega]
theorem RFr.rf {x : Nat} {I : am_I} : RFr x I I := fun _ _ => rfl
