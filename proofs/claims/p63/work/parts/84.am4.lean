/-! ===== rows for the texts that the library builds ===== -/
/-- a superclass's method named, the receiver's own taken -/
def am_SW (own : String) (idx : Nat) (x y : MethodName) (C : String) (n : Nat) : Prop := Cond.methodLink own idx x ∈ am_tbl ∧ Cond.sameMethod x.cls x.cls x.name x.desc ∈ am_tbl ∧ Cond.instanceMethod x ∈ am_tbl ∧ Cond.selects C x y ∈ am_tbl ∧ Cond.initialized y.cls ∈ am_tbl ∧ Cond.instanceMethod y ∈ am_tbl ∧ x.cls ≠ "java/lang/invoke/MethodHandle" ∧ x.cls ≠ "java/lang/invoke/VarHandle" ∧ (parseMethodDescriptor x.desc).map (fun d => d.parameters.length) = some n
theorem s_J0_1047 : am_SU RJ0 1047 yJ5_isLatin1_aae02 RJ4 0 := ⟨am_wd 1188 (by decide +kernel) rfl, am_wd 1046 (by decide +kernel) rfl, am_wd 1045 (by decide +kernel) rfl, Or.inl (am_wd 1047 (by decide +kernel) rfl), am_wd 46 (by decide +kernel) rfl, by decide +kernel, by decide +kernel, by decide +kernel⟩
theorem s_J0_552 : am_SU RJ0 552 yJ5_getValue_6d5f1 RJ4 0 := ⟨am_wd 1175 (by decide +kernel) rfl, am_wd 1177 (by decide +kernel) rfl, am_wd 1176 (by decide +kernel) rfl, Or.inl (am_wd 1178 (by decide +kernel) rfl), am_wd 46 (by decide +kernel) rfl, by decide +kernel, by decide +kernel, by decide +kernel⟩
theorem s_J4_29 : am_SP RJ4 29 yJ5_append_cf1ce 1 := ⟨am_wd 1009 (by decide +kernel) rfl, am_wd 1001 (by decide +kernel) rfl, am_wd 1010 (by decide +kernel) rfl, am_wd 1000 (by decide +kernel) rfl, am_wd 46 (by decide +kernel) rfl, by decide +kernel, by decide +kernel, by decide +kernel⟩
theorem s_J4_343 : am_SP RJ4 343 yJ5_length_8abf5 0 := ⟨am_wd 1186 (by decide +kernel) rfl, am_wd 1182 (by decide +kernel) rfl, am_wd 1010 (by decide +kernel) rfl, am_wd 1181 (by decide +kernel) rfl, am_wd 46 (by decide +kernel) rfl, by decide +kernel, by decide +kernel, by decide +kernel⟩
theorem s_J4_50 : am_SP RJ4 50 yJ5_append_3fe6f 1 := ⟨am_wd 1139 (by decide +kernel) rfl, am_wd 1314 (by decide +kernel) rfl, am_wd 1010 (by decide +kernel) rfl, am_wd 1140 (by decide +kernel) rfl, am_wd 46 (by decide +kernel) rfl, by decide +kernel, by decide +kernel, by decide +kernel⟩
theorem s_J4_53 : am_SP RJ4 53 yJ5_append_c97b9 1 := ⟨am_wd 1114 (by decide +kernel) rfl, am_wd 1313 (by decide +kernel) rfl, am_wd 1010 (by decide +kernel) rfl, am_wd 1115 (by decide +kernel) rfl, am_wd 46 (by decide +kernel) rfl, by decide +kernel, by decide +kernel, by decide +kernel⟩
theorem s_J5_100 : am_SU RJ5 100 yJ5_ensureCapacityInternal_d00df RJ4 1 := ⟨am_wd 1016 (by decide +kernel) rfl, am_wd 1308 (by decide +kernel) rfl, am_wd 1018 (by decide +kernel) rfl, Or.inl (am_sb (List.mem_cons_self)), am_wd 46 (by decide +kernel) rfl, by decide +kernel, by decide +kernel, by decide +kernel⟩
theorem s_J5_104 : am_SU RJ5 104 yJ5_newCapacity_0f7a4 RJ4 1 := ⟨am_wd 1020 (by decide +kernel) rfl, am_wd 1309 (by decide +kernel) rfl, am_wd 1022 (by decide +kernel) rfl, Or.inl (am_sb (List.mem_cons_of_mem _ List.mem_cons_self)), am_wd 46 (by decide +kernel) rfl, by decide +kernel, by decide +kernel, by decide +kernel⟩
theorem s_J5_208 : am_SU RJ5 208 yJ5_putStringAt_47b60 RJ4 2 := ⟨am_wd 1065 (by decide +kernel) rfl, am_wd 1310 (by decide +kernel) rfl, am_wd 1067 (by decide +kernel) rfl, Or.inl (am_sb (List.mem_cons_of_mem _ (List.mem_cons_of_mem _ List.mem_cons_self))), am_wd 46 (by decide +kernel) rfl, by decide +kernel, by decide +kernel, by decide +kernel⟩
theorem s_J5_397 : am_SU RJ5 397 yJ5_inflateIfNeededFor_a7421 RJ4 1 := ⟨am_wd 1069 (by decide +kernel) rfl, am_wd 1311 (by decide +kernel) rfl, am_wd 1071 (by decide +kernel) rfl, Or.inl (am_sb (List.mem_cons_of_mem _ (List.mem_cons_of_mem _ (List.mem_cons_of_mem _ List.mem_cons_self)))), am_wd 46 (by decide +kernel) rfl, by decide +kernel, by decide +kernel, by decide +kernel⟩
theorem s_J5_83 : am_SU RJ5 83 yJ5_isLatin1_aae02 RJ4 0 := ⟨am_wd 1044 (by decide +kernel) rfl, am_wd 1046 (by decide +kernel) rfl, am_wd 1045 (by decide +kernel) rfl, Or.inl (am_wd 1047 (by decide +kernel) rfl), am_wd 46 (by decide +kernel) rfl, by decide +kernel, by decide +kernel, by decide +kernel⟩
theorem f_J6_83 : Cond.fieldLink RJ6 83 "java/lang/Integer" "DigitOnes" "[B" ∈ am_tbl := am_wd 1123 (by decide +kernel) rfl
theorem f_J6_87 : Cond.fieldLink RJ6 87 "java/lang/Integer" "DigitTens" "[B" ∈ am_tbl := am_wd 1125 (by decide +kernel) rfl
theorem f_J5_18 : Cond.fieldLink RJ5 18 "java/lang/String" "COMPACT_STRINGS" "Z" ∈ am_tbl := am_wd 1049 (by decide +kernel) rfl
theorem s_J0_549 : am_SW RJ0 549 yJ5_length_8abf5 yJ4_length_8abf5 RJ4 0 := ⟨am_wd 1180 (by decide +kernel) rfl, am_wd 1182 (by decide +kernel) rfl, am_wd 1181 (by decide +kernel) rfl, am_wd 1183 (by decide +kernel) rfl, am_wd 47 (by decide +kernel) rfl, am_wd 1184 (by decide +kernel) rfl, by decide +kernel, by decide +kernel, by decide +kernel⟩
theorem s_J5_43 : am_SW RJ5 43 yJ5_append_cf1ce yJ4_append_cf1ce RJ4 1 := ⟨am_wd 999 (by decide +kernel) rfl, am_wd 1001 (by decide +kernel) rfl, am_wd 1000 (by decide +kernel) rfl, am_wd 1002 (by decide +kernel) rfl, am_wd 47 (by decide +kernel) rfl, am_wd 1003 (by decide +kernel) rfl, by decide +kernel, by decide +kernel, by decide +kernel⟩
theorem ki_J5_38 : Cond.constant RJ5 38 (2147483631 : Int32) ∈ am_tbl := am_wd 989 (by decide +kernel) rfl
theorem ki_J5_39 : Cond.constant RJ5 39 (2147483647 : Int32) ∈ am_tbl := am_wd 990 (by decide +kernel) rfl
theorem ki_J8_200 : Cond.constant RJ8 200 (2147483639 : Int32) ∈ am_tbl := am_wd 1028 (by decide +kernel) rfl
theorem b_clone1 : Cond.methodLink RJ7 310 ⟨"[B", "clone", "()Ljava/lang/Object;"⟩ ∈ am_tbl := am_wd 1035 (by decide +kernel) rfl
theorem b_clone2 : Cond.sameMethod "[B" "java/lang/Object" "clone" "()Ljava/lang/Object;" ∈ am_tbl := am_wd 1036 (by decide +kernel) rfl
theorem b_clone3 : Cond.native ⟨"java/lang/Object", "clone", "()Ljava/lang/Object;"⟩ ∈ am_tbl := am_wd 1037 (by decide +kernel) rfl
theorem b_clone4 : Cond.instanceMethod ⟨"java/lang/Object", "clone", "()Ljava/lang/Object;"⟩ ∈ am_tbl := am_wd 1038 (by decide +kernel) rfl
theorem b_clone5 : Cond.selects "[B" ⟨"[B", "clone", "()Ljava/lang/Object;"⟩ ⟨"java/lang/Object", "clone", "()Ljava/lang/Object;"⟩ ∈ am_tbl := am_wd 1039 (by decide +kernel) rfl
theorem b_clone6 : Cond.castable "[B" "java/lang/Cloneable" ∈ lw_tbl := List.mem_of_getElem? (i := 1040) (by decide +kernel)
def am_cx (I : am_I) (a a0 sp dp n : Nat) : am_I := fun b => if b = a then va_cpy (I a0) (I a) sp dp n else I b
theorem am_cx_ne {I : am_I} {a a0 sp dp n b : Nat} (h : b ≠ a) : am_cx I a a0 sp dp n b = I b := if_neg h
theorem am_cx_eq {I : am_I} {a a0 sp dp n : Nat} : am_cx I a a0 sp dp n a = va_cpy (I a0) (I a) sp dp n := if_pos rfl
def am_cs (I : am_I) (a i sp dp n : Nat) : am_I := fun b => if b = a then va_cpy (am_ch i) (I a) sp dp n else I b
theorem am_cs_ne {I : am_I} {a i sp dp n b : Nat} (h : b ≠ a) : am_cs I a i sp dp n b = I b := if_neg h
theorem am_cs_eq {I : am_I} {a i sp dp n : Nat} : am_cs I a i sp dp n a = va_cpy (am_ch i) (I a) sp dp n := if_pos rfl
section AM4
variable {G : am_G} {X : am_X} {R : Room} {own : String} {cc : ByteArray} {nL : Nat} {ret : Option FieldType} {tb : List ExceptionTableEntry} {Q : State → Prop}
variable {Λ : am_L} {I : am_I} {J : am_J} {k n pc : Nat} {ls : List (Nat × Value)} {st : List Value}
theorem k_dupx1 (C : am_Cx G X own cc nL ret tb Q) {u v : Value} (hu : u.category = 1) (hv : v.category = 1) (hd : decode cc pc = .ok (.dup_x1, 1)) (kk : am_K G X R nL Λ I J k n (pc + 1) ls (u :: v :: u :: st)) : am_K G X R nL Λ I J k n pc ls (u :: v :: st) := fun H locs la hR hS hl => lv_dup_x1 C.hx C.hb hd hu hv (kk H locs la hR hS hl)
theorem k_ifnn (C : am_Cx G X own cc nL ret tb Q) {a : Nat} {off : Int} {tgt : Nat} (ht : (pc : Int) + off = (tgt : Int)) (hd : decode cc pc = .ok (.ifnonnull off, 3)) (kk : am_K G X R nL Λ I J k n tgt ls st) : am_K G X R nL Λ I J k n pc ls (.ref a :: st) := fun H locs la hR hS hl => lv_ifnonnull C.hx C.hb hd ht (kk H locs la hR hS hl)
theorem k_null (C : am_Cx G X own cc nL ret tb Q) (hd : decode cc pc = .ok (.aconst_null, 1)) (kk : am_K G X R nL Λ I J k n (pc + 1) ls (.null :: st)) : am_K G X R nL Λ I J k n pc ls st := fun H locs la hR hS hl => lv_null C.hx C.hb hd (kk H locs la hR hS hl)
theorem k_lenB (C : am_Cx G X own cc nL ret tb Q) {a m : Nat} (hs : Λ.1 a = (3, m)) (hd : decode cc pc = .ok (.arraylength, 1)) (kk : am_K G X R nL Λ I J k n (pc + 1) ls (.int (nI m) :: st)) : am_K G X R nL Λ I J k n pc ls (.ref a :: st) := by
  intro H locs la hR hS hl
  exact W.alen C.hx C.hb (am_at_b hR hs) ((C.hK.2 1 _ rfl).1 m (fun j => .int (I a j))) (by show (arrV _ _ _).slots.size.toInt32 = nI m; rw [arrV_size]; rfl) rfl rfl hd (kk H locs la hR hS hl)
theorem k_lenI (C : am_Cx G X own cc nL ret tb Q) {a m : Nat} (hs : Λ.1 a = (2, m)) (hd : decode cc pc = .ok (.arraylength, 1)) (kk : am_K G X R nL Λ I J k n (pc + 1) ls (.int (nI m) :: st)) : am_K G X R nL Λ I J k n pc ls (.ref a :: st) := by
  intro H locs la hR hS hl
  exact W.alen C.hx C.hb (am_at_i hR hs) ((C.hK.2 0 _ rfl).1 m (fun j => .int (I a j))) (by show (arrV _ _ _).slots.size.toInt32 = nI m; rw [arrV_size]; rfl) rfl rfl hd (kk H locs la hR hS hl)
theorem k_putR (C : am_Cx G X own cc nL ret tb Q) {a b idx ci kf : Nat} {q : vw_C} (hF : am_F own idx ci kf q) (hs : Λ.1 a = (1, ci)) (hfin : (q.2.1 kf).2.2.2 = false) (hty : am_ty ci kf = .array .byte) (hd : decode cc pc = .ok (.putfield idx, 3)) (kk : am_K G X R nL (Λ.1, am_ur Λ.2 a kf (some b)) I J k n (pc + 3) ls (st)) : am_K G X R nL Λ I J k n (pc) ls (.ref b :: .ref a :: st) := by
  refine k_put C (Λ' := (Λ.1, am_ur Λ.2 a kf (some b))) hF hs hfin (by rw [hty]; rfl) (by rw [hty]; rfl) rfl (fun c hc => am_ur_ne hc) (fun _ _ => rfl) (fun _ _ => rfl) (fun j => ?_) hd kk
  by_cases e : j = kf
  · rw [if_pos e, e, hty]
    simp [am_fv, am_ur, va_rf]
  · rw [if_neg e]
    simp [am_ur, e]
theorem k_putB (C : am_Cx G X own cc nL ret tb Q) {a idx ci kf : Nat} {q : vw_C} (hF : am_F own idx ci kf q) (hs : Λ.1 a = (1, ci)) (hfin : (q.2.1 kf).2.2.2 = false) (hty : am_ty ci kf = .byte) (hd : decode cc pc = .ok (.putfield idx, 3)) (kk : am_K G X R nL Λ (am_up I a kf (nI 0)) J k n (pc + 3) ls (st)) : am_K G X R nL Λ I J k n (pc) ls (.int (nI 0) :: .ref a :: st) := by
  refine k_put C hF hs hfin (by rw [hty]; rfl) (by rw [hty]; rfl) rfl (fun _ _ => rfl) (fun b hb => am_up_ne hb) (fun _ _ => rfl) (fun j => ?_) hd kk
  by_cases e : j = kf
  · rw [if_pos e, e, hty]
    simp [am_fv, am_up]
  · rw [if_neg e]
    simp [am_up, e]
theorem k_putFB (C : am_Cx G X own cc nL ret tb Q) {a idx ci kf : Nat} {q : vw_C} (hin : X.2.2.2.2.2.2.1.name = "<init>") (hF : am_F own idx ci kf q) (hs : Λ.1 a = (1, ci)) (hfin : (q.2.1 kf).2.2.2 = true) (hdecl : (q.2.1 kf).1 = own) (hty : am_ty ci kf = .byte) (hd : decode cc pc = .ok (.putfield idx, 3))
    (kk : am_K G X R nL Λ (am_up I a kf (nI 0)) J k n (pc + 3) ls st) : am_K G X R nL Λ I J k n pc ls (.int (nI 0) :: .ref a :: st) := by
  intro H locs la hR hS hl
  obtain ⟨r, h1, cell, q1, q2, q3, q4⟩ := am_at_obj hR hs
  obtain ⟨cf, kc, fi, f, e1, e2, e3⟩ := am_slot hF C
  cases Option.some.inj (h1.symm.trans hF.1)
  obtain ⟨g1, g2, g3⟩ := (am_cfa ci (am_ci h1)) q h1
  have hap := va_apart (own := own) (C := q.1) (T := q.2.1) (N := q.2.2) C.ht g1 (am_ty ci) g2 g3 C.hK h1
  obtain ⟨hSS, hfc, kC, hkC, hkind⟩ := C.hK.1 ci _ h1
  have hlay := C.ht _ (g1 _ (u_in_lay hF.2.1))
  unfold u_lay at hlay
  rw [if_pos hfin] at hlay
  have hcf : X.2.2.2.1.cls = cf := by
    obtain ⟨_, _, c', _, _, _, -, -, hf', -, -, -, hown2, -⟩ := Cond.laysFinal_spec hlay
    have e1' : c' = cf := by have := e1.symm.trans hf'; simp at this; exact this.1.symm
    rw [hdecl] at hown2
    rw [← e1']; exact Option.some.inj (C.ho.symm.trans hown2)
  have hnf : narrow (am_ty ci kf) (.int (nI 0)) = .int (nI 0) ∧ fits (am_ty ci kf) (.int (nI 0)) = true := by
    rw [hty]; exact ⟨rfl, rfl⟩
  have h6 := u_fits hfc hkC hkind (Or.inr hlay) e1 (g2 _ hF.2.1) hnf.1 hnf.2
  refine W.putFinK C.hx C.hb C.ho (C.ht _ hF.2.2) e1 e3 hcf hin (by rw [q2]; exact h6) q1 q3 (by rw [e2]; exact k2_hasslot (q4 _ hF.2.1)) rfl rfl hd fun H' e4 e5 e6 => ?_
  rw [e2] at e4 ⊢
  have hv : ∀ j : Nat, am_fv (am_ty ci j) (Λ.2 a j) (am_up I a kf (nI 0) a j) (J a j) = if j = kf then Value.int (nI 0) else am_fv (am_ty ci j) (Λ.2 a j) (I a j) (J a j) := fun j => by
    by_cases e : j = kf
    · rw [if_pos e, e, hty]; simp [am_fv, am_up]
    · rw [if_neg e]
      simp [am_up, e]
  refine kk H' _ la (am_at_put (Λ' := Λ) hR rfl (fun c hc => rfl) (fun b hb => am_up_ne hb) (fun _ _ => rfl) ?_ e5 e6) (hS.put e5 e6 (hR.2.1 a (by rw [hs]; exact Nat.one_ne_zero)).1) hl
  unfold am_at
  rw [hs]
  refine ⟨q, h1, t_OB.to (V := updV (fun k => am_fv (am_ty ci k) (Λ.2 a k) (I a k) (J a k)) kf (.int (nI 0))) ⟨_, e4, q2, q3, t_set q4 hap hF.2.1 (.int (nI 0))⟩ (fun j _ => ?_)⟩
  rw [hv j]
  simp [updV]
theorem k_dig1 (C : am_Cx G X own cc nL ret tb Q) {idx : Nat} (hf : Cond.fieldLink own idx "java/lang/Integer" "DigitOnes" "[B" ∈ am_tbl) (hd : decode cc pc = .ok (.getstatic idx, 3)) (kk : ∀ d : Nat, va_T .byte d 100 (fun j => .int (nI (48 + j % 10))) (am_A G) X.2.2.1 X.2.2.1.heap → am_K G X R nL Λ I J k n (pc + 3) ls (.ref d :: st)) : am_K G X R nL Λ I J k n pc ls st := by
  obtain ⟨d, h1, h2⟩ := C.he.2.2.2.2.2.2.1.2.2.1
  exact fun H locs la hR hS hl => va_gets C.hx C.hb h1 hS C.ho (C.ht _ hf) (fun _ h => h) hd (kk d h2 H locs la hR hS hl)
theorem k_dig2 (C : am_Cx G X own cc nL ret tb Q) {idx : Nat} (hf : Cond.fieldLink own idx "java/lang/Integer" "DigitTens" "[B" ∈ am_tbl) (hd : decode cc pc = .ok (.getstatic idx, 3)) (kk : ∀ d : Nat, va_T .byte d 100 (fun j => .int (nI (48 + j / 10))) (am_A G) X.2.2.1 X.2.2.1.heap → am_K G X R nL Λ I J k n (pc + 3) ls (.ref d :: st)) : am_K G X R nL Λ I J k n pc ls st := by
  obtain ⟨d, h1, h2⟩ := C.he.2.2.2.2.2.2.1.2.2.2
  exact fun H locs la hR hS hl => va_gets C.hx C.hb h1 hS C.ho (C.ht _ hf) (fun _ h => h) hd (kk d h2 H locs la hR hS hl)
theorem k_dald (C : am_Cx G X own cc nL ret tb Q) {d j : Nat} {f : Nat → Int32} {i x : Int32} (hT : va_T .byte d 100 (fun j => .int (f j)) (am_A G) X.2.2.1 X.2.2.1.heap) (hi : i = nI j) (hj : j < 100) (hx : f j = x) (hd : decode cc pc = .ok (.baload, 1)) (kk : am_K G X R nL Λ I J k n (pc + 1) ls (.int x :: st)) : am_K G X R nL Λ I J k n pc ls (.int i :: .ref d :: st) := fun H locs la hR hS hl => va_tb C.hx C.hb hT hS (by rw [hi]; exact vp_in_nI hj (by omega)) (by rw [hi, nI_clamp (by omega), hx]) hd (kk H locs la hR hS hl)
theorem k_copyB (C : am_Cx G X own cc nL ret tb Q) {a a0 M N sp dp m idx : Nat} (hs0 : Λ.1 a0 = (3, M)) (hs : Λ.1 a = (3, N)) (hb : sp < 2 ^ 31 ∧ dp < 2 ^ 31 ∧ m < 2 ^ 31) (hM : sp + m ≤ M) (hN : dp + m ≤ N) (hfit : ∀ i : Nat, i < m → fits .byte (.int (I a0 (sp + i))) = true) (hlk : Cond.methodLink own idx arraycopyName ∈ am_tbl) (hRm : 1 ≤ R.frames ∧ (st.map fun v => v.category).sum + (nativeFrameWords "java/lang/System" "arraycopy" 5 + 11) ≤ R.locals) (hd : decode cc pc = .ok (.invokestatic idx, 3)) (kk : am_K G X R nL Λ (am_cx I a a0 sp dp m) J k n (pc + 3) ls st) : am_K G X R nL Λ I J k n pc ls (.int (nI m) :: .int (nI dp) :: .ref a :: .int (nI sp) :: .ref a0 :: st) := by
  intro H locs la hR hS hl T hT XX
  have hc0 : H[a0]? = some (vp_cell (G.2.2.2.1 1) (M, .inl (I a0))) := am_at_b hR hs0
  have hc1 : H[a]? = some (vp_cell (G.2.2.2.1 1) (N, .inl (I a))) := am_at_b hR hs
  have hA := (C.hK.2 1 _ rfl).1
  obtain ⟨-, k0, hk0, cm0, hkk0⟩ := hA M (fun j => .int (I a0 j))
  obtain ⟨-, k1, hk1, cm1, hkk1⟩ := hA N (fun j => .int (I a j))
  have z0 : (nI sp).toNatClampNeg = sp := nI_clamp hb.1
  have zd : (nI dp).toNatClampNeg = dp := nI_clamp hb.2.1
  have zN : (nI m).toNatClampNeg = m := nI_clamp hb.2.2
  have w0 : (nI sp).toInt = (sp : Int) := nI_toInt hb.1
  have wd : (nI dp).toInt = (dp : Int) := nI_toInt hb.2.1
  have wN : (nI m).toInt = (m : Int) := nI_toInt hb.2.2
  obtain ⟨vm', X', step⟩ := XX.arraycopy C.hx C.ho (C.ht _ hlk) (C.ht _ am_ac1) (C.ht _ am_ac2) (C.ht _ am_ac3) (src := a0) (dst := a) (cs := vp_cell (G.2.2.2.1 1) (M, .inl (I a0))) (cd := vp_cell (G.2.2.2.1 1) (N, .inl (I a))) (srcPos := nI sp) (destPos := nI dp) (n := nI m) (by rw [hT]; exact hc0) (by rw [hT]; exact hc1)
    (fun _ h => by cases h) (fun _ h => by cases h) (fun h => by cases h) (fun h => by cases h) hk0 hk1 hkk0 hkk1 (by simp [refKind]) (nI_pos hb.1) (nI_pos hb.2.1) (nI_pos hb.2.2)
    (by rw [w0, wN]; show ¬ _ > ((arrV _ M (fun j => .int (I a0 j))).slots.size : Int); rw [arrV_size]; omega)
    (by rw [wd, wN]; show ¬ _ > ((arrV _ N (fun j => .int (I a j))).slots.size : Int); rw [arrV_size]; omega)
    (fun vm₁ _ i hi => by
      rw [zN] at hi
      have e : (vp_cell (G.2.2.2.1 1) (M, .inl (I a0))).slots.getD ((nI sp).toNatClampNeg + i) .null = .int (I a0 (sp + i)) := by
        show (arrV _ M (fun j => .int (I a0 j))).slots.getD _ _ = _
        rw [z0, Array.getD_eq_getD_getElem?, arrV_read _ _ (by omega)]
        rfl
      refine ⟨?_, ?_⟩
      · rw [e]
        exact hfit i hi
      · rw [e]
        exact trivial)
    (g := F0 X.2.2.2.1 pc la (.int (nI m) :: .int (nI dp) :: .ref a :: .int (nI sp) :: .ref a0 :: st)) rfl (by rw [C.hm, hl.1]) (rest := st) rfl (by rw [C.hb]; exact hd) hRm.1 (by have := hRm.2; show 2 * 0 + _ + _ ≤ _; omega)
  have e1 : copied (vp_cell (G.2.2.2.1 1) (M, .inl (I a0))) (vp_cell (G.2.2.2.1 1) (N, .inl (I a))) (nI sp) (nI dp) (nI m) = vp_cell (G.2.2.2.1 1) (N, .inl (va_cpy (I a0) (I a) (nI sp).toNatClampNeg (nI dp).toNatClampNeg (nI m).toNatClampNeg)) := va_copied (fun z => .int z) _ _ (I a0) (I a) (by rw [z0, zN]; omega)
  have e2 : va_cpy (I a0) (I a) (nI sp).toNatClampNeg (nI dp).toNatClampNeg (nI m).toNatClampNeg = am_cx I a a0 sp dp m a := by
    rw [z0, zd, zN, am_cx_eq]
  rw [e1, e2] at X' step
  have hl2 : a < H.size := (Array.getElem?_eq_some_iff.mp hc1).1
  have hheap : ((T.setVm vm').setCell a (vp_cell (G.2.2.2.1 1) (N, .inl (am_cx I a a0 sp dp m a)))).heap = H.setIfInBounds a (vp_cell (G.2.2.2.1 1) (N, .inl (am_cx I a a0 sp dp m a))) := by rw [← hT]; rfl
  have oq : ∀ q : Nat, q ≠ a → (H.setIfInBounds a (vp_cell (G.2.2.2.1 1) (N, .inl (am_cx I a a0 sp dp m a))))[q]? = H[q]? := fun q hq => by simp [Array.getElem?_setIfInBounds, Ne.symm hq]
  have hself : (H.setIfInBounds a (vp_cell (G.2.2.2.1 1) (N, .inl (am_cx I a a0 sp dp m a))))[a]? = some (vp_cell (G.2.2.2.1 1) (N, .inl (am_cx I a a0 sp dp m a))) := by simp [Array.getElem?_setIfInBounds, hl2]
  have hz : (H.setIfInBounds a (vp_cell (G.2.2.2.1 1) (N, .inl (am_cx I a a0 sp dp m a)))).size = H.size := by simp
  have hza : G.2.1 ≤ a := (hR.2.1 a (by rw [hs]; exact Nat.succ_ne_zero _)).1
  obtain ⟨t, a1, b1⟩ := kk _ _ la (am_at_put (I' := am_cx I a a0 sp dp m) hR rfl (fun _ _ => rfl) (fun b hb => am_cx_ne hb) (fun _ _ => rfl) (by unfold am_at; rw [hs]; exact hself) hz oq) (⟨by rw [hz]; exact hS.1, fun q g1 g2 => by
      rw [oq q (fun e => g2 (by rw [e]; exact hza))]
      exact hS.2.1 q g1 g2, fun q hq => by
      rcases List.mem_append.mp hq with h | h
      · exact hS.2.2 q h
      · obtain ⟨z, -, hz⟩ := List.mem_map.mp h
        rw [← hz]
        exact hza⟩) hl _ hheap X'
  exact ⟨t, step t a1, b1⟩
theorem k_copyS (C : am_Cx G X own cc nL ret tb Q) {a i N sp dp m idx : Nat} (hi : i < 43) (hs : Λ.1 a = (3, N)) (hb : sp < 2 ^ 31 ∧ dp < 2 ^ 31 ∧ m < 2 ^ 31) (hM : sp + m ≤ am_slen.getD i 0) (hN : dp + m ≤ N) (hfit : ∀ j : Nat, j < m → fits .byte (.int (am_ch i (sp + j))) = true) (hlk : Cond.methodLink own idx arraycopyName ∈ am_tbl) (hRm : 1 ≤ R.frames ∧ (st.map fun v => v.category).sum + (nativeFrameWords "java/lang/System" "arraycopy" 5 + 11) ≤ R.locals) (hd : decode cc pc = .ok (.invokestatic idx, 3)) (kk : am_K G X R nL Λ (am_cs I a i sp dp m) J k n (pc + 3) ls st) : am_K G X R nL Λ I J k n pc ls (.int (nI m) :: .int (nI dp) :: .ref a :: .int (nI sp) :: .ref (G.2.2.2.2.2 i) :: st) := by
  intro H locs la hR hS hl T hT XX
  obtain ⟨scr, hs1, hs2, hs3, hs4, -, hs5, hs7⟩ := (C.he.2.2.2.2.2.1.1 i (by rw [am_scount]; exact hi)).2.2.2
  have hc0 : H[G.2.2.2.2.2 i]? = some scr := by rw [hS.2.1 _ (Array.getElem?_eq_some_iff.mp hs1).1 hs7]; exact hs1
  have hc1 : H[a]? = some (vp_cell (G.2.2.2.1 1) (N, .inl (I a))) := am_at_b hR hs
  obtain ⟨hs6, k0, hk0, cm0, hkk0⟩ := hs2
  obtain ⟨-, k1, hk1, cm1, hkk1⟩ := (C.hK.2 1 _ rfl).1 N (fun j => .int (I a j))
  have z0 : (nI sp).toNatClampNeg = sp := nI_clamp hb.1
  have zd : (nI dp).toNatClampNeg = dp := nI_clamp hb.2.1
  have zN : (nI m).toNatClampNeg = m := nI_clamp hb.2.2
  have w0 : (nI sp).toInt = (sp : Int) := nI_toInt hb.1
  have wd : (nI dp).toInt = (dp : Int) := nI_toInt hb.2.1
  have wN : (nI m).toInt = (m : Int) := nI_toInt hb.2.2
  obtain ⟨vm', X', step⟩ := XX.arraycopy C.hx C.ho (C.ht _ hlk) (C.ht _ am_ac1) (C.ht _ am_ac2) (C.ht _ am_ac3) (src := G.2.2.2.2.2 i) (dst := a) (cs := scr) (cd := vp_cell (G.2.2.2.1 1) (N, .inl (I a))) (srcPos := nI sp) (destPos := nI dp) (n := nI m) (by rw [hT]; exact hc0) (by rw [hT]; exact hc1)
    hs6 (fun _ h => by cases h) hs3 (fun h => by cases h) hk0 hk1 hkk0 hkk1 (by simp [refKind]) (nI_pos hb.1) (nI_pos hb.2.1) (nI_pos hb.2.2)
    (by rw [w0, wN]; omega)
    (by rw [wd, wN]; show ¬ _ > ((arrV _ N (fun j => .int (I a j))).slots.size : Int); rw [arrV_size]; omega)
    (fun vm₁ _ q hq => by
      rw [zN] at hq
      have e : scr.slots.getD ((nI sp).toNatClampNeg + q) .null = .int (am_ch i (sp + q)) := by
        rw [z0, Array.getD_eq_getD_getElem?, hs5 _ (by omega)]
        rfl
      refine ⟨?_, ?_⟩
      · rw [e]
        exact hfit q hq
      · rw [e]
        exact trivial)
    (g := F0 X.2.2.2.1 pc la (.int (nI m) :: .int (nI dp) :: .ref a :: .int (nI sp) :: .ref (G.2.2.2.2.2 i) :: st)) rfl (by rw [C.hm, hl.1]) (rest := st) rfl (by rw [C.hb]; exact hd) hRm.1 (by have := hRm.2; show 2 * 0 + _ + _ ≤ _; omega)
  have e1 : copied scr (vp_cell (G.2.2.2.1 1) (N, .inl (I a))) (nI sp) (nI dp) (nI m) = vp_cell (G.2.2.2.1 1) (N, .inl (va_cpy (am_ch i) (I a) (nI sp).toNatClampNeg (nI dp).toNatClampNeg (nI m).toNatClampNeg)) := va_copiedX (fun z => .int z) scr _ (am_ch i) (I a) hs5 (by rw [z0, zN]; exact hM)
  have e2 : va_cpy (am_ch i) (I a) (nI sp).toNatClampNeg (nI dp).toNatClampNeg (nI m).toNatClampNeg = am_cs I a i sp dp m a := by
    rw [z0, zd, zN, am_cs_eq]
  rw [e1, e2] at X' step
  have hl2 : a < H.size := (Array.getElem?_eq_some_iff.mp hc1).1
  have hheap : ((T.setVm vm').setCell a (vp_cell (G.2.2.2.1 1) (N, .inl (am_cs I a i sp dp m a)))).heap = H.setIfInBounds a (vp_cell (G.2.2.2.1 1) (N, .inl (am_cs I a i sp dp m a))) := by rw [← hT]; rfl
  have oq : ∀ q : Nat, q ≠ a → (H.setIfInBounds a (vp_cell (G.2.2.2.1 1) (N, .inl (am_cs I a i sp dp m a))))[q]? = H[q]? := fun q hq => by simp [Array.getElem?_setIfInBounds, Ne.symm hq]
  have hself : (H.setIfInBounds a (vp_cell (G.2.2.2.1 1) (N, .inl (am_cs I a i sp dp m a))))[a]? = some (vp_cell (G.2.2.2.1 1) (N, .inl (am_cs I a i sp dp m a))) := by simp [Array.getElem?_setIfInBounds, hl2]
  have hz : (H.setIfInBounds a (vp_cell (G.2.2.2.1 1) (N, .inl (am_cs I a i sp dp m a)))).size = H.size := by simp
  have hza : G.2.1 ≤ a := (hR.2.1 a (by rw [hs]; exact Nat.succ_ne_zero _)).1
  obtain ⟨t, a1, b1⟩ := kk _ _ la (am_at_put (I' := am_cs I a i sp dp m) hR rfl (fun _ _ => rfl) (fun b hb => am_cs_ne hb) (fun _ _ => rfl) (by unfold am_at; rw [hs]; exact hself) hz oq) (⟨by rw [hz]; exact hS.1, fun q g1 g2 => by
      rw [oq q (fun e => g2 (by rw [e]; exact hza))]
      exact hS.2.1 q g1 g2, fun q hq => by
      rcases List.mem_append.mp hq with h | h
      · exact hS.2.2 q h
      · obtain ⟨z, -, hz⟩ := List.mem_map.mp h
        rw [← hz]
        exact hza⟩) hl _ hheap X'
  exact ⟨t, step t a1, b1⟩
theorem k_callW (C : am_Cx G X own cc nL ret tb Q) {x y : MethodName} {b' bx : ByteArray} {nL' nx nn : Nat} {ret' rx : Option FieldType} {R' : Room} {As rest : List Value} {Post' : am_PT} {idx : Nat} {a ci : Nat} {q : vw_C} (hS0 : am_SW own idx x y q.1 nn) (hcx : Cond.code x bx nx rx ∈ am_tbl) (hcode : Cond.code y b' nL' ret' ∈ am_tbl) (hs : Λ.1 a = (1, ci)) (hq : vwCl[ci]? = some q) (hM : am_Ct G y b' nL' ret' R' (.ref a :: As) Λ I J Post' am_never) (hnn : As.length = nn) (hst : st = As.reverse ++ .ref a :: rest) (hW : (rest.map fun v => v.category).sum ≤ 8) (hfr : R'.frames + 1 ≤ R.frames ∧ 8 + (nL' + 11) + R'.locals ≤ R.locals) (hce : k + R'.cells ≤ R.cells ∧ n + R'.slots ≤ R.slots) (hd : decode cc pc = .ok (.invokevirtual idx, 3)) (kk : ∀ (v : Option Value) (Λ' : am_L) (I' : am_I) (J' : am_J), Post' v Λ' I' J' → am_K G X R nL Λ' I' J' (k + R'.cells) (n + R'.slots) (pc + 3) (ls) (v.toList ++ rest)) : am_K G X R nL Λ I J k n pc ls st := by
  intro H locs la hR hS hl
  obtain ⟨r, h1, cell, q1, q2, q3, -⟩ := am_at_obj hR hs
  cases Option.some.inj (h1.symm.trans hq)
  obtain ⟨w1, w2, w3, w4, w5, w9, w6, w7, w8⟩ := hS0
  exact am_fin (PX' := am_never) (am_vxrun (va_runU (C := q.1) (owner := x.cls) (x := x) ⟨C.hx, C.hb, C.hm, C.ho, C.ht⟩ (am_met hM) ⟨⟨rfl, rfl, hfr.1, hfr.2, pay_in C.ht (am_goodc hcode), List.mem_cons_self⟩, C.ht _ hcode, C.ht _ w5, ⟨w6, w7⟩, fun sig h => (by rw [h] at w8; exact (Option.some.inj w8).symm), C.ht _ w1, C.ht _ w2, va_Decl.of (C.ht _ w3) (C.ht _ hcx), C.ht _ w4, C.ht _ w9⟩ ⟨am_blind, ⟨cell, q1, by rw [q3]; rfl, by rw [q2]; exact (C.hK.1 ci _ h1).2.1⟩, fun U hU hW => ⟨rfl, by rw [hU]; exact hR, C.he.to hW (by rw [hU]; exact hS)⟩⟩ rfl hnn hl.1 hst (am_w8 rfl hW) hd hce)) hS hl kk (fun _ _ _ _ h => False.elim h)
end AM4
