/-! ===== what the Statement gives of the start ===== -/
theorem lw_ac {α : Type} {P : Nat → α → Prop} (h : ∀ i : Nat, ∃ a : α, P i a) : ∃ f : Nat → α, ∀ i : Nat, P i (f i) := ⟨fun i => Classical.choose (h i), fun i => Classical.choose_spec (h i)⟩
def lw_fl : List Cond := flatC (Jvm.Cond.and given_1 narrow_1)
def lw_tm (i : Nat) : Term := .string (am_strs.getD i ("", 0, "")).1 (am_strs.getD i ("", 0, "")).2.1
def lw_tv (i : Nat) : Term := .field (lw_tm i) "java/lang/String" "value" "[B"
def lw_blk (i : Nat) : List Cond := .exactly (lw_tm i) "java/lang/String" :: .eq (.field (lw_tm i) "java/lang/String" "coder" "B") (.int 0) :: .arrayOf (lw_tv i) .byte :: .eq (.length (lw_tv i)) (.int (Int32.ofNat (am_slen.getD i 0))) :: (List.range (am_slen.getD i 0)).map (fun j => .eq (.elem (lw_tv i) (.int (Int32.ofNat j))) (.int ((am_sbyt.getD i []).getD j 0)))
set_option maxRecDepth 100000 in
theorem lw_fl_s : lw_fl.drop 51 = (List.range 35).flatMap lw_blk := by decide +kernel
set_option maxRecDepth 100000 in
theorem lw_fl_n : (lw_fl.drop 11).take 40 = am_ncs.map (fun q => Cond.not (.castable q.1 q.2)) := by decide +kernel
theorem lw_in_s {i : Nat} (hi : i < 35) {w : Cond} (hw : w ∈ lw_blk i) : w ∈ lw_fl := List.mem_of_mem_drop (i := 51) (by rw [lw_fl_s]; exact List.mem_flatMap.mpr ⟨i, List.mem_range.mpr hi, hw⟩)
theorem lw_in_n {q : String × String} (hq : q ∈ am_ncs) : Cond.not (.castable q.1 q.2) ∈ lw_fl := List.mem_of_mem_drop (i := 11) (List.mem_of_mem_take (i := 40) (by rw [lw_fl_n]; exact List.mem_map.mpr ⟨q, hq, rfl⟩))
theorem lw_in_r : am_strs.map (fun q => Cond.stringRef q.1 q.2.1 q.2.2) = ([267, 344, 365, 378, 395, 412, 421, 700, 747, 761, 783, 797, 820, 849, 858, 871, 948, 972, 994, 1024, 1068, 1076, 1092, 1101, 1124, 1132, 1133, 1134, 1144, 1152, 1153, 1162, 1178, 1186, 1194] : List Nat).filterMap (fun i => lw_tbl[i]?) := by decide +kernel
theorem lw_ref {q : String × Nat × String} (hq : q ∈ am_strs) : Cond.stringRef q.1 q.2.1 q.2.2 ∈ lw_tbl := by
  have h : Cond.stringRef q.1 q.2.1 q.2.2 ∈ ([267, 344, 365, 378, 395, 412, 421, 700, 747, 761, 783, 797, 820, 849, 858, 871, 948, 972, 994, 1024, 1068, 1076, 1092, 1101, 1124, 1132, 1133, 1134, 1144, 1152, 1153, 1162, 1178, 1186, 1194] : List Nat).filterMap (fun i => lw_tbl[i]?) := by
    rw [← lw_in_r]
    exact List.mem_map.mpr ⟨q, hq, rfl⟩
  obtain ⟨i, -, hi⟩ := List.mem_filterMap.mp h
  exact List.mem_of_getElem? hi
set_option maxRecDepth 100000 in
theorem lw_apart : ∀ i : Nat, i < 35 → ∀ j : Nat, j < 35 → am_slen.getD i 0 = am_slen.getD j 0 → (∀ k : Nat, k < am_slen.getD i 0 → (am_sbyt.getD i []).getD k 0 = (am_sbyt.getD j []).getD k 0) → i = j := by decide +kernel
theorem lw_len : ∀ i : Nat, i < 35 → am_slen.getD i 0 < 2 ^ 31 := by decide +kernel
theorem va_OF_one {o n d : String} {v w : Value} {t : Nat} {A : Nat → Prop} {U : State} {H : Heap} (h : va_OF o n d v t A U H) (g : va_OF o n d w t A U H) : v = w := by
  obtain ⟨cf, k, i, f, cell, h1, -, h3, -, h5, -⟩ := h
  obtain ⟨cf', k', i', f', cell', g1, -, g3, -, g5, -⟩ := g
  rw [h1] at g1
  cases g1
  rw [h3] at g3
  cases g3
  rw [h5] at g5
  exact Option.some.inj g5
theorem va_T_one {ty : FieldType} {t N M : Nat} {f g : Nat → Value} {A : Nat → Prop} {U : State} {H : Heap} (hN : N < 2 ^ 31) (hM : M < 2 ^ 31) (h : va_T ty t N f A U H) (q : va_T ty t M g A U H) : N = M ∧ ∀ j : Nat, j < N → f j = g j := by
  obtain ⟨cell, h1, -, -, -, h5, h6, -⟩ := h
  obtain ⟨cell', g1, -, -, -, g5, g6, -⟩ := q
  rw [h1] at g1
  cases g1
  have e : N = M := nI_inj hN hM (h5.symm.trans g5)
  subst e
  exact ⟨rfl, fun j hj => Option.some.inj ((h6 j hj).symm.trans (g6 j hj))⟩
theorem lw_strings {args : Array Value} {s : State} {A : Nat → Prop} (h : ∀ w ∈ lw_fl, w.before args s = true) (hA : ∀ a : Nat, a < s.heap.size → ¬ A a) : ∃ adK adV : Nat → Nat, vk_S 35 am_slen am_sbyt adK adV A s s.heap ∧ ∀ i : Nat, i < 35 → (lw_tm i).eval args s none [] s = some (.ref (adK i)) := by
  have h0 : ∀ i : Nat, ∃ q : Nat × Nat, i < 35 → (lw_tm i).eval args s none [] s = some (.ref q.1) ∧ va_O "java/lang/String" q.1 A s s.heap ∧ va_OF "java/lang/String" "coder" "B" (.int 0) q.1 A s s.heap ∧ va_OF "java/lang/String" "value" "[B" (.ref q.2) q.1 A s s.heap ∧ va_T .byte q.2 (am_slen.getD i 0) (fun j => .int ((am_sbyt.getD i []).getD j 0)) A s s.heap := by
    intro i
    by_cases hi : i < 35
    · have hb : ∀ w ∈ lw_blk i, w.before args s = true := fun w hw => h w (lw_in_s hi hw)
      have hex := hb (.exactly (lw_tm i) "java/lang/String") (List.mem_cons_self)
      have hco := hb (.eq (.field (lw_tm i) "java/lang/String" "coder" "B") (.int 0)) (List.mem_cons_of_mem _ List.mem_cons_self)
      have har := hb (.arrayOf (lw_tv i) .byte) (List.mem_cons_of_mem _ (List.mem_cons_of_mem _ List.mem_cons_self))
      have hle := hb (.eq (.length (lw_tv i)) (.int (Int32.ofNat (am_slen.getD i 0)))) (List.mem_cons_of_mem _ (List.mem_cons_of_mem _ (List.mem_cons_of_mem _ List.mem_cons_self)))
      have hel : ∀ j : Nat, j < am_slen.getD i 0 → (Cond.eq (.elem (lw_tv i) (.int (Int32.ofNat j))) (.int ((am_sbyt.getD i []).getD j 0))).before args s = true := fun j hj => hb _ (List.mem_cons_of_mem _ (List.mem_cons_of_mem _ (List.mem_cons_of_mem _ (List.mem_cons_of_mem _ (List.mem_map.mpr ⟨j, List.mem_range.mpr hj, rfl⟩)))))
      obtain ⟨a, c, cA, kA, q1, q2, q3, q4, q5, q6, -⟩ := Cond.exactly_spec (args := args) (first := s) (o := none) (s := s) (idx := []) (t := lw_tm i) (cls := "java/lang/String") hex
      obtain ⟨t, ht, hT⟩ := va_Tof (f := fun j => .int ((am_sbyt.getD i []).getD j 0)) (A := A) (lw_len i hi) har (va_eqt hle) (fun j hj => va_eqt (hel j hj)) hA
      exact ⟨(a, t), fun _ => ⟨q1, ⟨cA, q3, q5, by rw [q6]; exact q2, hA a (Array.getElem?_eq_some_iff.mp q3).1⟩, vk_OFof q1 (va_eqt hco) hA, vk_OFof q1 ht hA, hT⟩⟩
    · exact ⟨(0, 0), fun h => absurd h hi⟩
  obtain ⟨ad, had⟩ := lw_ac h0
  refine ⟨fun i => (ad i).1, fun i => (ad i).2, ⟨fun i hi => (had i hi).2, fun i j hi hj e => ?_⟩, fun i hi => (had i hi).1⟩
  obtain ⟨-, -, -, v1, w1⟩ := had i hi
  obtain ⟨-, -, -, v2, w2⟩ := had j hj
  have e' : (ad i).1 = (ad j).1 := e
  rw [← e'] at v2
  have e2 : (ad i).2 = (ad j).2 := Value.ref.inj (va_OF_one v1 v2)
  rw [← e2] at w2
  obtain ⟨n1, n2⟩ := va_T_one (lw_len i hi) (lw_len j hj) w1 w2
  exact lw_apart i hi j hj n1 (fun k hk => Value.int.inj (n2 k hk))
theorem lw_arr {args : Array Value} {s : State} {ty : FieldType} (h : (Cond.arrayClass ty).before args s = true) : ∃ cA : ClassId, ArrOfT s cA ty ∧ s.vm.findClass ("[" ++ ty.toString) = some cA := by
  obtain ⟨c, k, comp, h1, h2, h3⟩ := Cond.arrayClass_spec (args := args) (first := s) (o := none) (s := s) (idx := []) h
  exact ⟨c, fun n z => ⟨fun k h => (by cases h), k, h2, comp, h3⟩, h1⟩
theorem lw_arrO {s : State} {C : String} (h : va_AO C s) : ∃ cA : ClassId, ArrOfT s cA (.object C) ∧ va_RA s cA (.object C) := by
  obtain ⟨comp, c, k, h1, h2, h3, h4, h5⟩ := Cond.arrayOver_spec h
  exact ⟨c, fun n z => ⟨fun k h => (by cases h), k, h3, comp, h4⟩, k, comp, h3, h4, h1, h5⟩
theorem lw_cls {args : Array Value} {s : State} (hts : ∀ w ∈ am_tbl, w.before args s = true) (ci : Nat) : ∃ p : ClassId × (Nat → Nat), ∀ q : vw_C, vwCl[ci]? = some q → u_Kn s q.1 q.2.1 q.2.2 p.1 p.2 := by
  match ci with
  | 0 =>
    obtain ⟨c, i, h⟩ := u_known (C := RX0) (T := TX0) (N := 17) (n := 17) hts (am_in am_lay0) (hts _ am_in_0)
    exact ⟨(c, i), fun q hq => by cases hq; exact h⟩
  | 1 =>
    obtain ⟨c, i, h⟩ := u_known (C := RX1) (T := TX1) (N := 3) (n := 3) hts (am_in am_lay1) (hts _ am_in_1)
    exact ⟨(c, i), fun q hq => by cases hq; exact h⟩
  | 2 =>
    obtain ⟨c, i, h⟩ := u_known (C := RX2) (T := TX2) (N := 8) (n := 8) hts (am_in am_lay2) (hts _ am_in_2)
    exact ⟨(c, i), fun q hq => by cases hq; exact h⟩
  | 3 =>
    obtain ⟨c, i, h⟩ := u_known (C := RX3) (T := TX3) (N := 13) (n := 13) hts (am_in am_lay3) (hts _ am_in_3)
    exact ⟨(c, i), fun q hq => by cases hq; exact h⟩
  | 4 =>
    obtain ⟨c, i, h⟩ := u_known (C := RX4) (T := TX4) (N := 2) (n := 2) hts (am_in am_lay4) (hts _ am_in_4)
    exact ⟨(c, i), fun q hq => by cases hq; exact h⟩
  | 5 =>
    obtain ⟨c, i, h⟩ := u_known (C := RX5) (T := TX5) (N := 9) (n := 9) hts (am_in am_lay5) (hts _ am_in_5)
    exact ⟨(c, i), fun q hq => by cases hq; exact h⟩
  | 6 =>
    obtain ⟨c, i, h⟩ := u_known (C := RX6) (T := TX6) (N := 20) (n := 20) hts (am_in am_lay6) (hts _ am_in_6)
    exact ⟨(c, i), fun q hq => by cases hq; exact h⟩
  | ci + 7 => exact ⟨(0, fun _ => 0), fun q hq => by simp [vwCl] at hq⟩
set_option maxHeartbeats 2000000 in
/-- the machine at the law's entry is one that every contract may start from -/
theorem lw_env {args : Array Value} {s : State} (l : Launch) (hflags : l.flags = flags0) (hts : ∀ w ∈ lw_tbl, w.before args s = true) (hgv : (Jvm.Cond.and given_1 narrow_1).before args s = true) : ∃ G : am_G, G.1 = l ∧ G.2.1 = s.heap.size ∧ am_env G s ∧ va_AO RX0 s := by
  have hfl : ∀ w ∈ lw_fl, w.before args s = true := flat_of_before _ hgv
  have hta : ∀ w ∈ am_tbl, w.before args s = true := fun w hw => hts w (List.mem_filter.mp hw).1
  have hA : ∀ a : Nat, a < s.heap.size → ¬ (s.heap.size ≤ a) := fun a h => Nat.not_le.mpr h
  have hAO : va_AO RX0 s := va_AO.of (hts _ (List.mem_of_getElem? (i := 461) (by decide +kernel)))
  obtain ⟨dd, hdd⟩ := lw_ac (lw_cls hta)
  obtain ⟨c0, a0, b0⟩ := lw_arr (hta _ am_ar_i)
  obtain ⟨c1, a1, b1⟩ := lw_arr (hta _ am_ar_b)
  obtain ⟨c2, a2, b2⟩ := lw_arr (hta _ am_ar_z)
  obtain ⟨c3, a3, b3⟩ := lw_arr (hta _ am_ar_l)
  obtain ⟨c4, a4, b4⟩ := lw_arrO hAO
  obtain ⟨adK, adV, hS, hE⟩ := lw_strings (A := fun a => s.heap.size ≤ a) hfl hA
  refine ⟨(l, s.heap.size, (fun ci => (dd ci).1, fun ci => (dd ci).2), (fun j => if j = 0 then c0 else if j = 1 then c1 else if j = 2 then c2 else if j = 3 then c3 else c4), adK, adV), rfl, rfl, ⟨?_, ⟨fun ci q hq => hdd ci q hq, ?_⟩, ?_, ?_, ?_, hS, ⟨?_, ?_⟩, ?_, ?_⟩, hAO⟩
  · show (!l.flags.contains noTraceFlag) = false
    rw [hflags]
    decide +kernel
  · intro k q hq
    match k, hq with
    | 0, hq => cases hq; exact ⟨a0, b0⟩
    | 1, hq => cases hq; exact ⟨a1, b1⟩
    | 2, hq => cases hq; exact ⟨a2, b2⟩
    | 3, hq => cases hq; exact ⟨a3, b3⟩
    | 4, hq => cases hq; exact ⟨a4, b4⟩
    | k + 5, hq => simp [am_tys] at hq
  · exact vx_Zqof (hts _ (List.mem_of_getElem? (i := 685) (by decide +kernel))) (hts _ (List.mem_of_getElem? (i := 71) (by decide +kernel))) (hfl _ (List.mem_of_getElem? (i := 9) (by decide +kernel))) hA
  · exact vx_Zqof (hts _ (List.mem_of_getElem? (i := 687) (by decide +kernel))) (hts _ (List.mem_of_getElem? (i := 71) (by decide +kernel))) (hfl _ (List.mem_of_getElem? (i := 10) (by decide +kernel))) hA
  · intro i q hq
    have hi : i < 35 := (List.getElem?_eq_some_iff.mp hq).1
    have hm : q ∈ am_strs := List.mem_of_getElem? hq
    have he := hE i hi
    unfold lw_tm at he
    rw [List.getD_eq_getElem?_getD, hq] at he
    exact vk_R.of (hts _ (lw_ref hm)) he
  · exact va_Zof (hts _ (List.mem_of_getElem? (i := 281) (by decide +kernel))) (hts _ (List.mem_of_getElem? (i := 63) (by decide +kernel))) (va_eqt (hfl _ (List.mem_of_getElem? (i := 4) (by decide +kernel)))) hA
  · exact va_Zqof (hts _ (List.mem_of_getElem? (i := 297) (by decide +kernel))) (hts _ (List.mem_of_getElem? (i := 65) (by decide +kernel))) (hfl _ (List.mem_of_getElem? (i := 5) (by decide +kernel))) hA
  · exact fun w hw g => va_Nw.of (am_nw_on g) (hts w hw)
  · exact fun i q hq => va_Nc.of (hfl _ (lw_in_n (List.mem_of_getElem? hq)))
