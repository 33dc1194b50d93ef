/-! ===== what the Statement gives of the start ===== -/
theorem lw_ac {α : Type} {P : Nat → α → Prop} (h : ∀ i : Nat, ∃ a : α, P i a) : ∃ f : Nat → α, ∀ i : Nat, P i (f i) := ⟨fun i => Classical.choose (h i), fun i => Classical.choose_spec (h i)⟩
def lw_fl : List Cond := flatC (Jvm.Cond.and given_1 narrow_1)
def lw_tm (i : Nat) : Term := .string (am_strs.getD i ("", 0, "")).1 (am_strs.getD i ("", 0, "")).2.1
def lw_tv (i : Nat) : Term := .field (lw_tm i) "java/lang/String" "value" "[B"
def lw_blk (i : Nat) : List Cond := .exactly (lw_tm i) "java/lang/String" :: .eq (.field (lw_tm i) "java/lang/String" "coder" "B") (.int 0) :: .arrayOf (lw_tv i) .byte :: .eq (.length (lw_tv i)) (.int (Int32.ofNat (am_slen.getD i 0))) :: (List.range (am_slen.getD i 0)).map (fun j => .eq (.elem (lw_tv i) (.int (Int32.ofNat j))) (.int ((am_sbyt.getD i []).getD j 0)))
set_option maxRecDepth 100000 in
theorem lw_fl_s : (lw_fl.drop 261).take 1121 = ([0, 1, 2, 3, 4, 5, 6, 22, 23, 21, 15, 24, 17, 25, 26, 27, 28, 29, 30, 31, 32, 33, 9, 7, 8, 10, 11, 12, 13, 14, 16, 18, 19, 20, 34, 35, 36, 37, 38, 39, 40, 41, 42] : List Nat).flatMap lw_blk := by decide +kernel
set_option maxRecDepth 100000 in
theorem lw_fl_n : (lw_fl.drop 217).take 44 = am_ncs.map (fun q => Cond.not (.castable q.1 q.2)) := by decide +kernel
theorem lw_perm : ∀ i : Nat, i < 43 → i ∈ ([0, 1, 2, 3, 4, 5, 6, 22, 23, 21, 15, 24, 17, 25, 26, 27, 28, 29, 30, 31, 32, 33, 9, 7, 8, 10, 11, 12, 13, 14, 16, 18, 19, 20, 34, 35, 36, 37, 38, 39, 40, 41, 42] : List Nat) := by decide
theorem lw_in_s {i : Nat} (hi : i < 43) {w : Cond} (hw : w ∈ lw_blk i) : w ∈ lw_fl := List.mem_of_mem_drop (i := 261) (List.mem_of_mem_take (i := 1121) (by rw [lw_fl_s]; exact List.mem_flatMap.mpr ⟨i, lw_perm i hi, hw⟩))
theorem lw_in_n {q : String × String} (hq : q ∈ am_ncs) : Cond.not (.castable q.1 q.2) ∈ lw_fl := List.mem_of_mem_drop (i := 217) (List.mem_of_mem_take (i := 44) (by rw [lw_fl_n]; exact List.mem_map.mpr ⟨q, hq, rfl⟩))
theorem lw_in_r : am_strs.map (fun q => Cond.stringRef q.1 q.2.1 q.2.2) = ([233, 310, 331, 344, 361, 378, 387, 820, 829, 811, 834, 839, 849, 862, 868, 713, 918, 731, 940, 954, 960, 682, 579, 671, 721, 732, 737, 739, 746, 760, 767, 773, 786, 800, 969, 980, 1149, 1151, 1152, 1153, 1160, 1161, 1202] : List Nat).filterMap (fun i => lw_tbl[i]?) := by decide +kernel
theorem lw_ref {q : String × Nat × String} (hq : q ∈ am_strs) : Cond.stringRef q.1 q.2.1 q.2.2 ∈ lw_tbl := by
  have h : Cond.stringRef q.1 q.2.1 q.2.2 ∈ ([233, 310, 331, 344, 361, 378, 387, 820, 829, 811, 834, 839, 849, 862, 868, 713, 918, 731, 940, 954, 960, 682, 579, 671, 721, 732, 737, 739, 746, 760, 767, 773, 786, 800, 969, 980, 1149, 1151, 1152, 1153, 1160, 1161, 1202] : List Nat).filterMap (fun i => lw_tbl[i]?) := by
    rw [← lw_in_r]
    exact List.mem_map.mpr ⟨q, hq, rfl⟩
  obtain ⟨i, -, hi⟩ := List.mem_filterMap.mp h
  exact List.mem_of_getElem? hi
set_option maxRecDepth 100000 in
theorem lw_apart : ∀ i : Nat, i < 43 → ∀ j : Nat, j < 43 → am_slen.getD i 0 = am_slen.getD j 0 → (∀ k : Nat, k < am_slen.getD i 0 → (am_sbyt.getD i []).getD k 0 = (am_sbyt.getD j []).getD k 0) → i = j := by decide +kernel
theorem lw_len : ∀ i : Nat, i < 43 → am_slen.getD i 0 < 2 ^ 31 := by decide +kernel
theorem va_OF_one {o n d : String} {v w : Value} {t : Nat} {A : Nat → Prop} {U : State} {H : Heap} (h : va_OF o n d v t A U H) (g : va_OF o n d w t A U H) : v = w := by
  obtain ⟨cf, k, i, f, cell, h1, -, h3, -, h5, -⟩ := h
  obtain ⟨cf', k', i', f', cell', g1, -, g3, -, g5, -⟩ := g
  rw [h1] at g1
  cases g1
  rw [h3] at g3
  cases g3
  rw [h5] at g5
  exact Option.some.inj g5
theorem va_T_one {ty : FieldType} {t N M : Nat} {f g : Nat → Value} {A : Nat → Prop} {U : State} {H : Heap} (hN : N < 2 ^ 31) (hM : M < 2 ^ 31) (h : va_T ty t N f A U H) (q : va_T ty t M g A U H) : N = M ∧ ∀ j : Nat, j < N → f j = g j := by
  obtain ⟨cell, h1, -, -, -, h5, h6, -⟩ := h
  obtain ⟨cell', g1, -, -, -, g5, g6, -⟩ := q
  rw [h1] at g1
  cases g1
  have e : N = M := nI_inj hN hM (h5.symm.trans g5)
  subst e
  exact ⟨rfl, fun j hj => Option.some.inj ((h6 j hj).symm.trans (g6 j hj))⟩
theorem lw_strings {args : Array Value} {s : State} {A : Nat → Prop} (h : ∀ w ∈ lw_fl, w.before args s = true) (hA : ∀ a : Nat, a < s.heap.size → ¬ A a) : ∃ adK adV : Nat → Nat, vk_S 43 am_slen am_sbyt adK adV A s s.heap ∧ ∀ i : Nat, i < 43 → (lw_tm i).eval args s none [] s = some (.ref (adK i)) := by
  have h0 : ∀ i : Nat, ∃ q : Nat × Nat, i < 43 → (lw_tm i).eval args s none [] s = some (.ref q.1) ∧ va_O "java/lang/String" q.1 A s s.heap ∧ va_OF "java/lang/String" "coder" "B" (.int 0) q.1 A s s.heap ∧ va_OF "java/lang/String" "value" "[B" (.ref q.2) q.1 A s s.heap ∧ va_T .byte q.2 (am_slen.getD i 0) (fun j => .int ((am_sbyt.getD i []).getD j 0)) A s s.heap := by
    intro i
    by_cases hi : i < 43
    · have hb : ∀ w ∈ lw_blk i, w.before args s = true := fun w hw => h w (lw_in_s hi hw)
      have hex := hb (.exactly (lw_tm i) "java/lang/String") (List.mem_cons_self)
      have hco := hb (.eq (.field (lw_tm i) "java/lang/String" "coder" "B") (.int 0)) (List.mem_cons_of_mem _ List.mem_cons_self)
      have har := hb (.arrayOf (lw_tv i) .byte) (List.mem_cons_of_mem _ (List.mem_cons_of_mem _ List.mem_cons_self))
      have hle := hb (.eq (.length (lw_tv i)) (.int (Int32.ofNat (am_slen.getD i 0)))) (List.mem_cons_of_mem _ (List.mem_cons_of_mem _ (List.mem_cons_of_mem _ List.mem_cons_self)))
      have hel : ∀ j : Nat, j < am_slen.getD i 0 → (Cond.eq (.elem (lw_tv i) (.int (Int32.ofNat j))) (.int ((am_sbyt.getD i []).getD j 0))).before args s = true := fun j hj => hb _ (List.mem_cons_of_mem _ (List.mem_cons_of_mem _ (List.mem_cons_of_mem _ (List.mem_cons_of_mem _ (List.mem_map.mpr ⟨j, List.mem_range.mpr hj, rfl⟩)))))
      obtain ⟨a, c, cA, kA, q1, q2, q3, q4, q5, q6, -⟩ := Cond.exactly_spec (args := args) (first := s) (o := none) (s := s) (idx := []) (t := lw_tm i) (cls := "java/lang/String") hex
      obtain ⟨t, ht, hT⟩ := va_Tof (f := fun j => .int ((am_sbyt.getD i []).getD j 0)) (A := A) (lw_len i hi) har (va_eqt hle) (fun j hj => va_eqt (hel j hj)) hA
      exact ⟨(a, t), fun _ => ⟨q1, ⟨cA, q3, q5, by rw [q6]; exact q2, hA a (Array.getElem?_eq_some_iff.mp q3).1⟩, vk_OFof q1 (va_eqt hco) hA, vk_OFof q1 ht hA, hT⟩⟩
    · exact ⟨(0, 0), fun h => absurd h hi⟩
  obtain ⟨ad, had⟩ := lw_ac h0
  refine ⟨fun i => (ad i).1, fun i => (ad i).2, ⟨fun i hi => (had i hi).2, fun i j hi hj e => ?_⟩, fun i hi => (had i hi).1⟩
  obtain ⟨-, -, -, v1, w1⟩ := had i hi
  obtain ⟨-, -, -, v2, w2⟩ := had j hj
  have e' : (ad i).1 = (ad j).1 := e
  rw [← e'] at v2
  have e2 : (ad i).2 = (ad j).2 := Value.ref.inj (va_OF_one v1 v2)
  rw [← e2] at w2
  obtain ⟨n1, n2⟩ := va_T_one (lw_len i hi) (lw_len j hj) w1 w2
  exact lw_apart i hi j hj n1 (fun k hk => Value.int.inj (n2 k hk))
theorem lw_arr {args : Array Value} {s : State} {ty : FieldType} (h : (Cond.arrayClass ty).before args s = true) : ∃ cA : ClassId, ArrOfT s cA ty ∧ s.vm.findClass ("[" ++ ty.toString) = some cA := by
  obtain ⟨c, k, comp, h1, h2, h3⟩ := Cond.arrayClass_spec (args := args) (first := s) (o := none) (s := s) (idx := []) h
  exact ⟨c, fun n z => ⟨fun k h => (by cases h), k, h2, comp, h3⟩, h1⟩
theorem lw_arrO {s : State} {C : String} (h : va_AO C s) : ∃ cA : ClassId, ArrOfT s cA (.object C) ∧ va_RA s cA (.object C) := by
  obtain ⟨comp, c, k, h1, h2, h3, h4, h5⟩ := Cond.arrayOver_spec h
  exact ⟨c, fun n z => ⟨fun k h => (by cases h), k, h3, comp, h4⟩, k, comp, h3, h4, h1, h5⟩
theorem lw_cls {args : Array Value} {s : State} (hts : ∀ w ∈ am_tbl, w.before args s = true) (ci : Nat) : ∃ p : ClassId × (Nat → Nat), ∀ q : vw_C, vwCl[ci]? = some q → u_Kn s q.1 q.2.1 q.2.2 p.1 p.2 := by
  match ci with
  | 0 =>
    obtain ⟨c, i, h⟩ := u_known (C := RX0) (T := TX0) (N := 17) (n := 17) hts (am_in am_lay0) (hts _ am_in_0)
    exact ⟨(c, i), fun q hq => by cases hq; exact h⟩
  | 1 =>
    obtain ⟨c, i, h⟩ := u_known (C := RX1) (T := TX1) (N := 3) (n := 3) hts (am_in am_lay1) (hts _ am_in_1)
    exact ⟨(c, i), fun q hq => by cases hq; exact h⟩
  | 2 =>
    obtain ⟨c, i, h⟩ := u_known (C := RX2) (T := TX2) (N := 8) (n := 8) hts (am_in am_lay2) (hts _ am_in_2)
    exact ⟨(c, i), fun q hq => by cases hq; exact h⟩
  | 3 =>
    obtain ⟨c, i, h⟩ := u_known (C := RX3) (T := TX3) (N := 13) (n := 13) hts (am_in am_lay3) (hts _ am_in_3)
    exact ⟨(c, i), fun q hq => by cases hq; exact h⟩
  | 4 =>
    obtain ⟨c, i, h⟩ := u_known (C := RX4) (T := TX4) (N := 2) (n := 2) hts (am_in am_lay4) (hts _ am_in_4)
    exact ⟨(c, i), fun q hq => by cases hq; exact h⟩
  | 5 =>
    obtain ⟨c, i, h⟩ := u_known (C := RX5) (T := TX5) (N := 9) (n := 9) hts (am_in am_lay5) (hts _ am_in_5)
    exact ⟨(c, i), fun q hq => by cases hq; exact h⟩
  | 6 =>
    obtain ⟨c, i, h⟩ := u_known (C := RJ4) (T := TJ4) (N := 4) (n := 4) hts (am_in am_lay6) (hts _ am_in_6)
    exact ⟨(c, i), fun q hq => by cases hq; exact h⟩
  | 7 =>
    obtain ⟨c, i, h⟩ := u_known (C := RJ0) (T := TJ0) (N := 4) (n := 4) hts (am_in am_lay7) (hts _ am_in_7)
    exact ⟨(c, i), fun q hq => by cases hq; exact h⟩
  | ci + 8 => exact ⟨(0, fun _ => 0), fun q hq => by simp [vwCl] at hq⟩
theorem lw_sb {args : Array Value} {s : State} (hts : ∀ w ∈ lw_tbl, w.before args s = true) : ∀ w ∈ sb_sels, w.before args s = true := by
  intro w hw
  have hin : (Cond.instantiable RJ4 4).before args s = true := hts _ (List.mem_of_getElem? (i := 979) (by decide +kernel))
  simp only [sb_sels, List.mem_cons, List.mem_nil_iff, or_false] at hw
  rcases hw with rfl | rfl | rfl | rfl
  · exact sb_selects ⟨by decide, by decide⟩ hin (hts _ (List.mem_of_getElem? (i := 1308) (by decide +kernel))) (hts _ (List.mem_of_getElem? (i := 1017) (by decide +kernel))) (hts _ (List.mem_of_getElem? (i := 1018) (by decide +kernel)))
  · exact sb_selects ⟨by decide, by decide⟩ hin (hts _ (List.mem_of_getElem? (i := 1309) (by decide +kernel))) (hts _ (List.mem_of_getElem? (i := 1021) (by decide +kernel))) (hts _ (List.mem_of_getElem? (i := 1022) (by decide +kernel)))
  · exact sb_selects ⟨by decide, by decide⟩ hin (hts _ (List.mem_of_getElem? (i := 1310) (by decide +kernel))) (hts _ (List.mem_of_getElem? (i := 1066) (by decide +kernel))) (hts _ (List.mem_of_getElem? (i := 1067) (by decide +kernel)))
  · exact sb_selects ⟨by decide, by decide⟩ hin (hts _ (List.mem_of_getElem? (i := 1311) (by decide +kernel))) (hts _ (List.mem_of_getElem? (i := 1070) (by decide +kernel))) (hts _ (List.mem_of_getElem? (i := 1071) (by decide +kernel)))
theorem lw_am {args : Array Value} {s : State} (hts : ∀ w ∈ lw_tbl, w.before args s = true) : ∀ w ∈ am_tbl, w.before args s = true := fun w hw => (List.mem_append.mp hw).elim (fun h => hts w (List.mem_filter.mp h).1) (lw_sb hts w)
def lw_dblk (n : String) (f : Nat → Nat) : List Cond := .isRef (.static "java/lang/Integer" n "[B") :: .arrayOf (.static "java/lang/Integer" n "[B") .byte :: .eq (.length (.static "java/lang/Integer" n "[B")) (.int (Int32.ofNat 100)) :: (List.range 100).map (fun j => .eq (.elem (.static "java/lang/Integer" n "[B") (.int (Int32.ofNat j))) (.int (nI (f j))))
set_option maxRecDepth 100000 in
theorem lw_fl_d1 : (lw_fl.drop 11).take 103 = lw_dblk "DigitOnes" (fun j => 48 + j % 10) := by decide +kernel
set_option maxRecDepth 100000 in
theorem lw_fl_d2 : (lw_fl.drop 114).take 103 = lw_dblk "DigitTens" (fun j => 48 + j / 10) := by decide +kernel
theorem lw_dig {args : Array Value} {s : State} {n : String} {f : Nat → Nat} (h : ∀ w ∈ lw_dblk n f, w.before args s = true) (hl : (Cond.laysStatic "java/lang/Integer" n "[B").before args s = true) (hini : (Cond.initialized "java/lang/Integer").before args s = true) {A : Nat → Prop} (hA : ∀ a : Nat, a < s.heap.size → ¬ A a) : ∃ d : Nat, va_Z "java/lang/Integer" n "[B" (.ref d) A s s.heap ∧ va_T .byte d 100 (fun j => .int (nI (f j))) A s s.heap := by
  have har := h (.arrayOf (.static "java/lang/Integer" n "[B") .byte) (List.mem_cons_of_mem _ List.mem_cons_self)
  have hle := h (.eq (.length (.static "java/lang/Integer" n "[B")) (.int (Int32.ofNat 100))) (List.mem_cons_of_mem _ (List.mem_cons_of_mem _ List.mem_cons_self))
  have hel : ∀ j : Nat, j < 100 → (Cond.eq (.elem (.static "java/lang/Integer" n "[B") (.int (Int32.ofNat j))) (.int (nI (f j)))).before args s = true := fun j hj => h _ (List.mem_cons_of_mem _ (List.mem_cons_of_mem _ (List.mem_cons_of_mem _ (List.mem_map.mpr ⟨j, List.mem_range.mpr hj, rfl⟩))))
  obtain ⟨t, ht, hT⟩ := va_Tof (f := fun j => .int (nI (f j))) (A := A) (by decide) har (va_eqt hle) (fun j hj => va_eqt (hel j hj)) hA
  exact ⟨t, va_Zof hl hini ht hA, hT⟩
set_option maxHeartbeats 2000000 in
/-- the machine at the law's entry is one that every contract may start from -/
theorem lw_env {args : Array Value} {s : State} (l : Launch) (hflags : l.flags = flags0) (hts : ∀ w ∈ lw_tbl, w.before args s = true) (hgv : (Jvm.Cond.and given_1 narrow_1).before args s = true) : ∃ G : am_G, G.1 = l ∧ G.2.1 = s.heap.size ∧ am_env G s ∧ va_AO RX0 s := by
  have hfl : ∀ w ∈ lw_fl, w.before args s = true := flat_of_before _ hgv
  have hta : ∀ w ∈ am_tbl, w.before args s = true := lw_am hts
  have hA : ∀ a : Nat, a < s.heap.size → ¬ (s.heap.size ≤ a) := fun a h => Nat.not_le.mpr h
  have hAO : va_AO RX0 s := va_AO.of (hts _ (List.mem_of_getElem? (i := 427) (by decide +kernel)))
  obtain ⟨dd, hdd⟩ := lw_ac (lw_cls hta)
  obtain ⟨c0, a0, b0⟩ := lw_arr (hta _ am_ar_i)
  obtain ⟨c1, a1, b1⟩ := lw_arr (hta _ am_ar_b)
  obtain ⟨c2, a2, b2⟩ := lw_arr (hta _ am_ar_z)
  obtain ⟨c4, a4, b4⟩ := lw_arrO hAO
  obtain ⟨adK, adV, hS, hE⟩ := lw_strings (A := fun a => s.heap.size ≤ a) hfl hA
  refine ⟨(l, s.heap.size, (fun ci => (dd ci).1, fun ci => (dd ci).2), (fun j => if j = 0 then c0 else if j = 1 then c1 else if j = 2 then c2 else if j = 3 then c0 else c4), adK, adV), rfl, rfl, ⟨?_, ⟨fun ci q hq => hdd ci q hq, ?_⟩, ?_, ?_, ?_, hS, ⟨?_, ?_, ?_, ?_⟩, ?_, ?_⟩, hAO⟩
  · show (!l.flags.contains noTraceFlag) = false
    rw [hflags]
    decide +kernel
  · intro k q hq
    match k, hq with
    | 0, hq => cases hq; exact ⟨a0, b0⟩
    | 1, hq => cases hq; exact ⟨a1, b1⟩
    | 2, hq => cases hq; exact ⟨a2, b2⟩
    | 3, hq => cases hq; exact ⟨a0, b0⟩
    | 4, hq => cases hq; exact ⟨a4, b4⟩
    | k + 5, hq => simp [am_tys] at hq
  · exact vx_Zqof (hts _ (List.mem_of_getElem? (i := 564) (by decide +kernel))) (hts _ (List.mem_of_getElem? (i := 38) (by decide +kernel))) (hfl _ (List.mem_of_getElem? (i := 9) (by decide +kernel))) hA
  · exact vx_Zqof (hts _ (List.mem_of_getElem? (i := 566) (by decide +kernel))) (hts _ (List.mem_of_getElem? (i := 38) (by decide +kernel))) (hfl _ (List.mem_of_getElem? (i := 10) (by decide +kernel))) hA
  · intro i q hq
    have hi : i < 43 := (List.getElem?_eq_some_iff.mp hq).1
    have hm : q ∈ am_strs := List.mem_of_getElem? hq
    have he := hE i hi
    unfold lw_tm at he
    rw [List.getD_eq_getElem?_getD, hq] at he
    exact vk_R.of (hts _ (lw_ref hm)) he
  · exact va_Zof (hts _ (List.mem_of_getElem? (i := 247) (by decide +kernel))) (hts _ (List.mem_of_getElem? (i := 31) (by decide +kernel))) (va_eqt (hfl _ (List.mem_of_getElem? (i := 4) (by decide +kernel)))) hA
  · exact va_Zqof (hts _ (List.mem_of_getElem? (i := 263) (by decide +kernel))) (hts _ (List.mem_of_getElem? (i := 33) (by decide +kernel))) (hfl _ (List.mem_of_getElem? (i := 5) (by decide +kernel))) hA
  · exact lw_dig (fun w hw => hfl w (List.mem_of_mem_drop (i := 11) (List.mem_of_mem_take (i := 103) (by rw [lw_fl_d1]; exact hw)))) (hts _ (List.mem_of_getElem? (i := 1124) (by decide +kernel))) (hts _ (List.mem_of_getElem? (i := 51) (by decide +kernel))) hA
  · exact lw_dig (fun w hw => hfl w (List.mem_of_mem_drop (i := 114) (List.mem_of_mem_take (i := 103) (by rw [lw_fl_d2]; exact hw)))) (hts _ (List.mem_of_getElem? (i := 1126) (by decide +kernel))) (hts _ (List.mem_of_getElem? (i := 51) (by decide +kernel))) hA
  · exact fun w hw g => va_Nw.of (am_nw_on g) (hts w hw)
  · exact fun i q hq => va_Nc.of (hfl _ (lw_in_n (List.mem_of_getElem? hq)))
