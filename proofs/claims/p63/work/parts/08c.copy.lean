def am_cp (I : am_I) (a a0 N : Nat) : am_I := fun b j => if b = a ∧ j < N then I a0 j else I b j
theorem am_cp_ne {I : am_I} {a a0 N b : Nat} (h : b ≠ a) : am_cp I a a0 N b = I b := by
  funext j
  simp [am_cp, h]
section AMCP
variable {G : am_G} {X : am_X} {R : Room} {own : String} {cc : ByteArray} {nL : Nat} {ret : Option FieldType} {tb : List ExceptionTableEntry} {Q : State → Prop}
variable {Λ : am_L} {I : am_I} {J : am_J} {k n pc : Nat} {ls : List (Nat × Value)} {st : List Value}
theorem k_copy (C : am_Cx G X own cc nL ret tb Q) {a a0 N idx : Nat} (hs0 : Λ.1 a0 = (2, N)) (hs : Λ.1 a = (2, N)) (hN : N < 2 ^ 31) (hlk : Cond.methodLink own idx arraycopyName ∈ am_tbl) (hRm : 1 ≤ R.frames ∧ (st.map fun v => v.category).sum + (nativeFrameWords "java/lang/System" "arraycopy" 5 + 11) ≤ R.locals) (hd : decode cc pc = .ok (.invokestatic idx, 3)) (kk : am_K G X R nL Λ (am_cp I a a0 N) J k n (pc + 3) ls st) : am_K G X R nL Λ I J k n pc ls (.int (nI N) :: .int (nI 0) :: .ref a :: .int (nI 0) :: .ref a0 :: st) := by
  intro H locs la hR hS hl T hT XX
  have hc0 : H[a0]? = some (vp_cell (G.2.2.2.1 0) (N, .inl (I a0))) := am_at_i hR hs0
  have hc1 : H[a]? = some (vp_cell (G.2.2.2.1 0) (N, .inl (I a))) := am_at_i hR hs
  have hA := (C.hK.2 0 _ rfl).1
  obtain ⟨-, k0, hk0, cm0, hkk0⟩ := hA N (fun j => .int (I a0 j))
  obtain ⟨-, k1, hk1, cm1, hkk1⟩ := hA N (fun j => .int (I a j))
  have z0 : (nI 0).toNatClampNeg = 0 := nI_clamp (by decide)
  have zN : (nI N).toNatClampNeg = N := nI_clamp hN
  have w0 : (nI 0).toInt = 0 := nI_toInt (by decide)
  have wN : (nI N).toInt = (N : Int) := nI_toInt hN
  obtain ⟨vm', X', step⟩ := XX.arraycopy C.hx C.ho (C.ht _ hlk) (C.ht _ am_ac1) (C.ht _ am_ac2) (C.ht _ am_ac3) (src := a0) (dst := a) (cs := vp_cell (G.2.2.2.1 0) (N, .inl (I a0))) (cd := vp_cell (G.2.2.2.1 0) (N, .inl (I a))) (srcPos := nI 0) (destPos := nI 0) (n := nI N) (by rw [hT]; exact hc0) (by rw [hT]; exact hc1)
    (fun _ h => by cases h) (fun _ h => by cases h) (fun h => by cases h) (fun h => by cases h) hk0 hk1 hkk0 hkk1 (by rfl) (nI_pos (by decide)) (nI_pos (by decide)) (nI_pos hN)
    (by rw [w0, wN]; show ¬ _ > ((arrV _ N (fun j => .int (I a0 j))).slots.size : Int); rw [arrV_size]; omega)
    (by rw [w0, wN]; show ¬ _ > ((arrV _ N (fun j => .int (I a j))).slots.size : Int); rw [arrV_size]; omega)
    (fun vm₁ _ i hi => by
      rw [zN] at hi
      have e : (vp_cell (G.2.2.2.1 0) (N, .inl (I a0))).slots.getD ((nI 0).toNatClampNeg + i) .null = .int (I a0 ((nI 0).toNatClampNeg + i)) := by
        show (arrV _ N (fun j => .int (I a0 j))).slots.getD _ _ = _
        rw [Array.getD_eq_getD_getElem?, arrV_read _ _ (by rw [z0]; omega)]
        rfl
      refine ⟨?_, ?_⟩
      · rw [e]
        rfl
      · rw [e]
        exact trivial)
    (g := F0 X.2.2.2.1 pc la (.int (nI N) :: .int (nI 0) :: .ref a :: .int (nI 0) :: .ref a0 :: st)) rfl (by rw [C.hm, hl.1]) (rest := st) rfl (by rw [C.hb]; exact hd) hRm.1 (by have := hRm.2; show 2 * 0 + _ + _ ≤ _; omega)
  have e1 : copied (vp_cell (G.2.2.2.1 0) (N, .inl (I a0))) (vp_cell (G.2.2.2.1 0) (N, .inl (I a))) (nI 0) (nI 0) (nI N) = vp_cell (G.2.2.2.1 0) (N, .inl (va_cpy (I a0) (I a) (nI 0).toNatClampNeg (nI 0).toNatClampNeg (nI N).toNatClampNeg)) := va_copied (fun z => .int z) _ _ (I a0) (I a) (by rw [z0, zN]; omega)
  have e2 : va_cpy (I a0) (I a) (nI 0).toNatClampNeg (nI 0).toNatClampNeg (nI N).toNatClampNeg = am_cp I a a0 N a := by
    funext j
    rw [z0, zN]
    by_cases hj : j < N
    · rw [pk_cpy_in (Nat.zero_le _) (by omega)]
      simp [am_cp, hj]
    · rw [pk_cpy_out (by omega)]
      simp [am_cp, hj]
  rw [e1, e2] at X' step
  have hl2 : a < H.size := (Array.getElem?_eq_some_iff.mp hc1).1
  have hheap : ((T.setVm vm').setCell a (vp_cell (G.2.2.2.1 0) (N, .inl (am_cp I a a0 N a)))).heap = H.setIfInBounds a (vp_cell (G.2.2.2.1 0) (N, .inl (am_cp I a a0 N a))) := by rw [← hT]; rfl
  have oq : ∀ q : Nat, q ≠ a → (H.setIfInBounds a (vp_cell (G.2.2.2.1 0) (N, .inl (am_cp I a a0 N a))))[q]? = H[q]? := fun q hq => by simp [Array.getElem?_setIfInBounds, Ne.symm hq]
  have hself : (H.setIfInBounds a (vp_cell (G.2.2.2.1 0) (N, .inl (am_cp I a a0 N a))))[a]? = some (vp_cell (G.2.2.2.1 0) (N, .inl (am_cp I a a0 N a))) := by simp [Array.getElem?_setIfInBounds, hl2]
  have hz : (H.setIfInBounds a (vp_cell (G.2.2.2.1 0) (N, .inl (am_cp I a a0 N a)))).size = H.size := by simp
  have hza : G.2.1 ≤ a := (hR.2.1 a (by rw [hs]; exact Nat.succ_ne_zero _)).1
  obtain ⟨t, a1, b1⟩ := kk _ _ la (am_at_put (I' := am_cp I a a0 N) hR rfl (fun _ _ => rfl) (fun b hb => am_cp_ne hb) (fun _ _ => rfl) (by unfold am_at; rw [hs]; exact hself) hz oq) (⟨by rw [hz]; exact hS.1, fun q g1 g2 => by
      rw [oq q (fun e => g2 (by rw [e]; exact hza))]
      exact hS.2.1 q g1 g2, fun q hq => by
      rcases List.mem_append.mp hq with h | h
      · exact hS.2.2 q h
      · obtain ⟨z, -, hz⟩ := List.mem_map.mp h
        rw [← hz]
        exact hza⟩) hl _ hheap X'
  exact ⟨t, step t a1, b1⟩
end AMCP
