/-! ===== the abstract machine: shapes and references (am_L), ints (am_I), longs (am_J) by address and slot; a judgement am_K over the kit's W ===== -/
abbrev am_L : Type := (Nat → Nat × Nat) × (Nat → Nat → Option Nat)
abbrev am_I : Type := Nat → Nat → Int32
abbrev am_J : Type := Nat → Nat → Int64
/-- launch, base, class numbers and field slots, array class ids, addresses of string constants and of their contents -/
abbrev am_G : Type := Launch × Nat × va_G × (Nat → ClassId) × (Nat → Nat) × (Nat → Nat)
abbrev am_X : Type := Program × Env × State × MethodId × Array Value × List Frame × Method × Code × (State → Prop)
abbrev am_PT : Type := Option Value → am_L → am_I → am_J → Prop
abbrev am_XT : Type := String → am_L → am_I → am_J → Prop
def am_ty (ci : Nat) : Nat → FieldType := match ci with
  | 0 => tyX0
  | 1 => tyX1
  | 2 => tyX2
  | 3 => tyX3
  | 4 => tyX4
  | 5 => tyX5
  | 6 => tyJ4
  | _ => tyJ0
def am_fv (ty : FieldType) (r : Option Nat) (x : Int32) (y : Int64) : Value := match ty with
  | .object _ => va_rf r
  | .array _ => va_rf r
  | .long => .long y
  | _ => .int x
abbrev am_A (G : am_G) : Nat → Prop := fun q => G.2.1 ≤ q
def am_at (G : am_G) (Λ : am_L) (I : am_I) (J : am_J) (a : Nat) (H : Heap) : Prop := match Λ.1 a with
  | (0, _) => True
  | (1, ci) => ∃ r : vw_C, vwCl[ci]? = some r ∧ t_OB a (G.2.2.1.1 ci) r.2.2 (G.2.2.1.2 ci) H (fun k => am_fv (am_ty ci k) (Λ.2 a k) (I a k) (J a k))
  | (2, n) => H[a]? = some (vp_cell (G.2.2.2.1 0) (n, .inl (I a)))
  | (3, n) => H[a]? = some (vp_cell (G.2.2.2.1 1) (n, .inl (I a)))
  | (4, n) => H[a]? = some (vp_cell (G.2.2.2.1 2) (n, .inl (I a)))
  | (6, n) => H[a]? = some (vp_cell (G.2.2.2.1 4) (n, .inr (.inr (.inr (.inr (Λ.2 a))))))
  | _ => True
def am_rel (G : am_G) (Λ : am_L) (I : am_I) (J : am_J) (H : Heap) : Prop := (∀ a : Nat, am_at G Λ I J a H) ∧ (∀ a : Nat, (Λ.1 a).1 ≠ 0 → G.2.1 ≤ a ∧ a < H.size) ∧ G.2.1 ≤ H.size
abbrev am_tys (G : am_G) : List (ClassId × FieldType) := [(G.2.2.2.1 0, .int), (G.2.2.2.1 1, .byte), (G.2.2.2.1 2, .boolean), (G.2.2.2.1 3, .int), (G.2.2.2.1 4, .object RX0)]
def am_strs : List (String × Nat × String) := [("CaravanRoute", 16, "route 200;camel 40 3 60;camel 30 5 80;camel 50 2 40;well 30 100 10;well 90 50 5;storm 2 3 4;load 30 20 on 1;load 45 50 on 1;load 15 9;"), ("CaravanRoute$Input", 75, "route"), ("CaravanRoute$Input", 98, "camel"), ("CaravanRoute$Input", 107, "well"), ("CaravanRoute$Input", 123, "storm"), ("CaravanRoute$Input", 131, "load"), ("CaravanRoute$Input", 140, "on"), ("CaravanRoute", 89, "the input buffer has no room for 20 bytes"), ("CaravanRoute", 99, "the new length is not within the input buffer"), ("CaravanRoute", 102, "the text has an error"), ("CaravanRoute", 112, "the latest load found no error"), ("CaravanRoute", 126, "the day is not 0 to 999"), ("CaravanRoute", 153, "there is no such well"), ("CaravanRoute", 159, "there is no well here"), ("CaravanRoute", 164, "there is no well on the way"), ("CaravanRoute", 179, "there is no such camel"), ("CaravanRoute", 217, "no camel is alive"), ("CaravanRoute", 228, "there is no such load"), ("CaravanRoute", 242, "the load lies at a kilometre"), ("CaravanRoute", 254, "the days are not 0 to 50"), ("CaravanRoute", 262, "the caravan does not arrive in this way"), ("CaravanRoute", 264, "the caravan is not at a well"), ("CaravanRoute", 270, "the caravan cannot travel any more"), ("CaravanRoute", 278, "the caravan cannot rest any more"), ("CaravanRoute", 287, "the camel is dead"), ("CaravanRoute", 289, "the camel is dead or carries this load already"), ("CaravanRoute", 291, "the load is not here"), ("CaravanRoute", 293, "the load is too heavy in addition"), ("CaravanRoute", 302, "no camel carries the load"), ("CaravanRoute", 304, "the weight or the value is not 1 to 99"), ("CaravanRoute", 306, "there are 20 loads"), ("CaravanRoute", 314, "there is nothing to undo"), ("CaravanRoute", 319, "there is no such slot"), ("CaravanRoute", 324, "the slot is empty"), ("CaravanRoute", 330, "there is no such byte"), ("CaravanRouteLaw", 168, "route "), ("CaravanRouteLaw", 180, "camel "), ("CaravanRouteLaw", 185, "well "), ("CaravanRouteLaw", 187, "storm "), ("CaravanRouteLaw", 189, "load "), ("CaravanRouteLaw", 192, " on "), ("CaravanRouteLaw", 194, ";"), ("java/util/Arrays", 337, " > ")]
def am_slen : List Nat := [134, 5, 5, 4, 5, 4, 2, 41, 45, 21, 30, 23, 21, 21, 27, 22, 17, 21, 28, 24, 39, 28, 34, 32, 17, 46, 20, 33, 25, 38, 18, 24, 21, 17, 21, 6, 6, 5, 6, 5, 4, 1, 3]
def am_sbyt : List (List Int32) := [[114, 111, 117, 116, 101, 32, 50, 48, 48, 59, 99, 97, 109, 101, 108, 32, 52, 48, 32, 51, 32, 54, 48, 59, 99, 97, 109, 101, 108, 32, 51, 48, 32, 53, 32, 56, 48, 59, 99, 97, 109, 101, 108, 32, 53, 48, 32, 50, 32, 52, 48, 59, 119, 101, 108, 108, 32, 51, 48, 32, 49, 48, 48, 32, 49, 48, 59, 119, 101, 108, 108, 32, 57, 48, 32, 53, 48, 32, 53, 59, 115, 116, 111, 114, 109, 32, 50, 32, 51, 32, 52, 59, 108, 111, 97, 100, 32, 51, 48, 32, 50, 48, 32, 111, 110, 32, 49, 59, 108, 111, 97, 100, 32, 52, 53, 32, 53, 48, 32, 111, 110, 32, 49, 59, 108, 111, 97, 100, 32, 49, 53, 32, 57, 59], [114, 111, 117, 116, 101], [99, 97, 109, 101, 108], [119, 101, 108, 108], [115, 116, 111, 114, 109], [108, 111, 97, 100], [111, 110], [116, 104, 101, 32, 105, 110, 112, 117, 116, 32, 98, 117, 102, 102, 101, 114, 32, 104, 97, 115, 32, 110, 111, 32, 114, 111, 111, 109, 32, 102, 111, 114, 32, 50, 48, 32, 98, 121, 116, 101, 115], [116, 104, 101, 32, 110, 101, 119, 32, 108, 101, 110, 103, 116, 104, 32, 105, 115, 32, 110, 111, 116, 32, 119, 105, 116, 104, 105, 110, 32, 116, 104, 101, 32, 105, 110, 112, 117, 116, 32, 98, 117, 102, 102, 101, 114], [116, 104, 101, 32, 116, 101, 120, 116, 32, 104, 97, 115, 32, 97, 110, 32, 101, 114, 114, 111, 114], [116, 104, 101, 32, 108, 97, 116, 101, 115, 116, 32, 108, 111, 97, 100, 32, 102, 111, 117, 110, 100, 32, 110, 111, 32, 101, 114, 114, 111, 114], [116, 104, 101, 32, 100, 97, 121, 32, 105, 115, 32, 110, 111, 116, 32, 48, 32, 116, 111, 32, 57, 57, 57], [116, 104, 101, 114, 101, 32, 105, 115, 32, 110, 111, 32, 115, 117, 99, 104, 32, 119, 101, 108, 108], [116, 104, 101, 114, 101, 32, 105, 115, 32, 110, 111, 32, 119, 101, 108, 108, 32, 104, 101, 114, 101], [116, 104, 101, 114, 101, 32, 105, 115, 32, 110, 111, 32, 119, 101, 108, 108, 32, 111, 110, 32, 116, 104, 101, 32, 119, 97, 121], [116, 104, 101, 114, 101, 32, 105, 115, 32, 110, 111, 32, 115, 117, 99, 104, 32, 99, 97, 109, 101, 108], [110, 111, 32, 99, 97, 109, 101, 108, 32, 105, 115, 32, 97, 108, 105, 118, 101], [116, 104, 101, 114, 101, 32, 105, 115, 32, 110, 111, 32, 115, 117, 99, 104, 32, 108, 111, 97, 100], [116, 104, 101, 32, 108, 111, 97, 100, 32, 108, 105, 101, 115, 32, 97, 116, 32, 97, 32, 107, 105, 108, 111, 109, 101, 116, 114, 101], [116, 104, 101, 32, 100, 97, 121, 115, 32, 97, 114, 101, 32, 110, 111, 116, 32, 48, 32, 116, 111, 32, 53, 48], [116, 104, 101, 32, 99, 97, 114, 97, 118, 97, 110, 32, 100, 111, 101, 115, 32, 110, 111, 116, 32, 97, 114, 114, 105, 118, 101, 32, 105, 110, 32, 116, 104, 105, 115, 32, 119, 97, 121], [116, 104, 101, 32, 99, 97, 114, 97, 118, 97, 110, 32, 105, 115, 32, 110, 111, 116, 32, 97, 116, 32, 97, 32, 119, 101, 108, 108], [116, 104, 101, 32, 99, 97, 114, 97, 118, 97, 110, 32, 99, 97, 110, 110, 111, 116, 32, 116, 114, 97, 118, 101, 108, 32, 97, 110, 121, 32, 109, 111, 114, 101], [116, 104, 101, 32, 99, 97, 114, 97, 118, 97, 110, 32, 99, 97, 110, 110, 111, 116, 32, 114, 101, 115, 116, 32, 97, 110, 121, 32, 109, 111, 114, 101], [116, 104, 101, 32, 99, 97, 109, 101, 108, 32, 105, 115, 32, 100, 101, 97, 100], [116, 104, 101, 32, 99, 97, 109, 101, 108, 32, 105, 115, 32, 100, 101, 97, 100, 32, 111, 114, 32, 99, 97, 114, 114, 105, 101, 115, 32, 116, 104, 105, 115, 32, 108, 111, 97, 100, 32, 97, 108, 114, 101, 97, 100, 121], [116, 104, 101, 32, 108, 111, 97, 100, 32, 105, 115, 32, 110, 111, 116, 32, 104, 101, 114, 101], [116, 104, 101, 32, 108, 111, 97, 100, 32, 105, 115, 32, 116, 111, 111, 32, 104, 101, 97, 118, 121, 32, 105, 110, 32, 97, 100, 100, 105, 116, 105, 111, 110], [110, 111, 32, 99, 97, 109, 101, 108, 32, 99, 97, 114, 114, 105, 101, 115, 32, 116, 104, 101, 32, 108, 111, 97, 100], [116, 104, 101, 32, 119, 101, 105, 103, 104, 116, 32, 111, 114, 32, 116, 104, 101, 32, 118, 97, 108, 117, 101, 32, 105, 115, 32, 110, 111, 116, 32, 49, 32, 116, 111, 32, 57, 57], [116, 104, 101, 114, 101, 32, 97, 114, 101, 32, 50, 48, 32, 108, 111, 97, 100, 115], [116, 104, 101, 114, 101, 32, 105, 115, 32, 110, 111, 116, 104, 105, 110, 103, 32, 116, 111, 32, 117, 110, 100, 111], [116, 104, 101, 114, 101, 32, 105, 115, 32, 110, 111, 32, 115, 117, 99, 104, 32, 115, 108, 111, 116], [116, 104, 101, 32, 115, 108, 111, 116, 32, 105, 115, 32, 101, 109, 112, 116, 121], [116, 104, 101, 114, 101, 32, 105, 115, 32, 110, 111, 32, 115, 117, 99, 104, 32, 98, 121, 116, 101], [114, 111, 117, 116, 101, 32], [99, 97, 109, 101, 108, 32], [119, 101, 108, 108, 32], [115, 116, 111, 114, 109, 32], [108, 111, 97, 100, 32], [32, 111, 110, 32], [59], [32, 62, 32]]
def am_ncs : List (String × String) := [("CaravanRoute", "java/util/NoSuchElementException"), ("CaravanRoute$Input", "java/util/NoSuchElementException"), ("CaravanRoute$Caravan", "java/util/NoSuchElementException"), ("CaravanRoute$Plan", "java/util/NoSuchElementException"), ("CaravanRoute$History", "java/util/NoSuchElementException"), ("CaravanRoute$Writing", "java/util/NoSuchElementException"), ("java/lang/IllegalStateException", "java/util/NoSuchElementException"), ("java/lang/IndexOutOfBoundsException", "java/util/NoSuchElementException"), ("java/lang/IllegalArgumentException", "java/util/NoSuchElementException"), ("java/lang/StringBuilder", "java/util/NoSuchElementException"), ("java/lang/String", "java/util/NoSuchElementException"), ("CaravanRoute", "java/lang/IllegalStateException"), ("CaravanRoute$Input", "java/lang/IllegalStateException"), ("CaravanRoute$Caravan", "java/lang/IllegalStateException"), ("CaravanRoute$Plan", "java/lang/IllegalStateException"), ("CaravanRoute$History", "java/lang/IllegalStateException"), ("CaravanRoute$Writing", "java/lang/IllegalStateException"), ("java/lang/IndexOutOfBoundsException", "java/lang/IllegalStateException"), ("java/lang/IllegalArgumentException", "java/lang/IllegalStateException"), ("java/util/NoSuchElementException", "java/lang/IllegalStateException"), ("java/lang/StringBuilder", "java/lang/IllegalStateException"), ("java/lang/String", "java/lang/IllegalStateException"), ("CaravanRoute", "java/lang/IllegalArgumentException"), ("CaravanRoute$Input", "java/lang/IllegalArgumentException"), ("CaravanRoute$Caravan", "java/lang/IllegalArgumentException"), ("CaravanRoute$Plan", "java/lang/IllegalArgumentException"), ("CaravanRoute$History", "java/lang/IllegalArgumentException"), ("CaravanRoute$Writing", "java/lang/IllegalArgumentException"), ("java/lang/IllegalStateException", "java/lang/IllegalArgumentException"), ("java/lang/IndexOutOfBoundsException", "java/lang/IllegalArgumentException"), ("java/util/NoSuchElementException", "java/lang/IllegalArgumentException"), ("java/lang/StringBuilder", "java/lang/IllegalArgumentException"), ("java/lang/String", "java/lang/IllegalArgumentException"), ("CaravanRoute", "java/lang/IndexOutOfBoundsException"), ("CaravanRoute$Input", "java/lang/IndexOutOfBoundsException"), ("CaravanRoute$Caravan", "java/lang/IndexOutOfBoundsException"), ("CaravanRoute$Plan", "java/lang/IndexOutOfBoundsException"), ("CaravanRoute$History", "java/lang/IndexOutOfBoundsException"), ("CaravanRoute$Writing", "java/lang/IndexOutOfBoundsException"), ("java/lang/IllegalStateException", "java/lang/IndexOutOfBoundsException"), ("java/lang/IllegalArgumentException", "java/lang/IndexOutOfBoundsException"), ("java/util/NoSuchElementException", "java/lang/IndexOutOfBoundsException"), ("java/lang/StringBuilder", "java/lang/IndexOutOfBoundsException"), ("java/lang/String", "java/lang/IndexOutOfBoundsException")]
/-- words that the tables decide, kept by lemmas of their own -/
def am_nw (w : Cond) : Bool := match w with
  | .castable _ _ => true
  | .declares _ => true
  | .methodLinkNest _ _ _ _ => true
  | _ => false
theorem am_nw_on {w : Cond} (h : am_nw w = true) : w.onTables = true := by
  cases w <;> first | rfl | (simp [am_nw] at h)
theorem am_nw_warm {w : Cond} {s U : State} (hW : s.WarmedH U.vm) (h : am_nw w = true) (hZ : va_Nw w s) : va_Nw w U := by
  cases w with
  | castable a b => exact va_Nw.warmC hW hZ
  | declares a => exact va_Nw.warmD hW hZ
  | methodLinkNest a b c d => exact va_Nw.warmM hW hZ
  | _ => simp [am_nw] at h
theorem am_nw_same {w : Cond} {U : State} {g : JFrame} {mk : MethodId} {a : Array Value} (h : am_nw w = true) (hZ : va_Nw w U) : va_Nw w (U.calling g mk a) := va_Nw.same (am_nw_on h) (u := U) (U := U.calling g mk a) rfl hZ
def am_nests : List (String × Nat × MethodName × String) := [("CaravanRoute", 11, ⟨"CaravanRoute$Input", "<init>", "()V"⟩, "CaravanRoute"), ("CaravanRoute$Input", 19, ⟨"CaravanRoute$Plan", "<init>", "()V"⟩, "CaravanRoute"), ("CaravanRoute", 32, ⟨"CaravanRoute$Plan", "<init>", "()V"⟩, "CaravanRoute"), ("CaravanRoute", 79, ⟨"CaravanRoute$Writing", "<init>", "()V"⟩, "CaravanRoute")]
/-- the tables of digits of java.lang.Integer -/
def am_dg (A : Nat → Prop) (U : State) (H : Heap) : Prop := (∃ d : Nat, va_Z "java/lang/Integer" "DigitOnes" "[B" (.ref d) A U H ∧ va_T .byte d 100 (fun j => .int (nI (48 + j % 10))) A U H) ∧ ∃ d : Nat, va_Z "java/lang/Integer" "DigitTens" "[B" (.ref d) A U H ∧ va_T .byte d 100 (fun j => .int (nI (48 + j / 10))) A U H
theorem am_dg.moved {A : Nat → Prop} {u U : State} {H : Heap} (hvm : u.vm.Alike U.vm) (h : am_dg A u H) : am_dg A U H := by
  obtain ⟨⟨d, a1, a2⟩, e, b1, b2⟩ := h
  exact ⟨⟨d, va_Z.moved hvm a1, va_T.moved hvm a2⟩, e, va_Z.moved hvm b1, va_T.moved hvm b2⟩
theorem am_dg.kept {A : Nat → Prop} {U : State} {H H1 : Heap} (h : am_dg A U H) (hq : ∀ a : Nat, a < H.size → ¬ A a → H1[a]? = H[a]?) : am_dg A U H1 := by
  obtain ⟨⟨d, a1, a2⟩, e, b1, b2⟩ := h
  exact ⟨⟨d, a1.kept hq, a2.kept hq⟩, e, b1.kept hq, b2.kept hq⟩
/-- what every method's start knows of the machine beside the worlds: no traces, classes and array classes, Throwable's two statics, the string constants, Latin-1 strings -/
def am_env (G : am_G) (U : State) : Prop :=
  G.1.stackTraces = false ∧ va_K G.2.2.1 vwCl (am_tys G) U ∧ vx_Zq Bundle.tN "UNASSIGNED_STACK" Bundle.steD (am_A G) U U.heap ∧ vx_Zq Bundle.tN "SUPPRESSED_SENTINEL" Bundle.listD (am_A G) U U.heap ∧
  (∀ (i : Nat) (q : String × Nat × String), am_strs[i]? = some q → vk_R q.1 q.2.1 q.2.2 (G.2.2.2.2.1 i) U) ∧
  vk_S am_strs.length am_slen am_sbyt G.2.2.2.2.1 G.2.2.2.2.2 (am_A G) U U.heap ∧ (va_Z "java/lang/String" "COMPACT_STRINGS" "Z" (.int 1) (am_A G) U U.heap ∧ va_Zq "jdk/internal/util/Preconditions" "SIOOBE_FORMATTER" "Ljava/util/function/BiFunction;" (am_A G) U U.heap ∧ am_dg (am_A G) U U.heap) ∧
  (∀ w ∈ lw_tbl, am_nw w = true → va_Nw w U) ∧ (∀ (i : Nat) (q : String × String), am_ncs[i]? = some q → va_Nc q.1 q.2 U)
theorem am_env.to {G : am_G} {s U : State} {locs : List Loc} (h : am_env G s) (hW : s.WarmedH U.vm) (hS : va_S (am_A G) s.heap U.heap locs) : am_env G U := by
  obtain ⟨h1, h2, h3, h4, h5, h6, h7, h8, h9⟩ := h
  exact ⟨h1, va_K.moved hW.alike h2, vx_Zq.moved hW.alike (h3.kept hS.2.1), vx_Zq.moved hW.alike (h4.kept hS.2.1), fun i q hq => vk_R.warm hW (h5 i q hq), vk_S.moved hW.alike (h6.kept hS.2.1), ⟨va_Z.moved hW.alike (h7.1.kept hS.2.1), va_Zq.moved hW.alike (h7.2.1.kept hS.2.1), am_dg.moved hW.alike (h7.2.2.kept hS.2.1)⟩, fun w hw g => am_nw_warm hW g (h8 w hw g), fun i q hq => va_Nc.moved hW.alike (h9 i q hq)⟩
theorem am_env.calling {G : am_G} {U : State} {g : JFrame} {mk : MethodId} {a : Array Value} (h : am_env G U) : am_env G (U.calling g mk a) := by
  obtain ⟨h1, h2, h3, h4, h5, h6, h7, h8, h9⟩ := h
  exact ⟨h1, va_K.moved (Vm.Alike.refl U.vm) h2, vx_Zq.moved (u := U) (U := U.calling g mk a) (Vm.Alike.refl U.vm) h3, vx_Zq.moved (u := U) (U := U.calling g mk a) (Vm.Alike.refl U.vm) h4, fun i q hq => vk_R.same rfl (h5 i q hq), vk_S.moved (u := U) (U := U.calling g mk a) (Vm.Alike.refl U.vm) h6, ⟨va_Z.moved (u := U) (U := U.calling g mk a) (Vm.Alike.refl U.vm) h7.1, va_Zq.moved (u := U) (U := U.calling g mk a) (Vm.Alike.refl U.vm) h7.2.1, am_dg.moved (u := U) (U := U.calling g mk a) (Vm.Alike.refl U.vm) h7.2.2⟩, fun w hw g => am_nw_same g (h8 w hw g), fun i q hq => va_Nc.moved (u := U) (U := U.calling g mk a) (Vm.Alike.refl U.vm) (h9 i q hq)⟩
def am_Qc (G : am_G) (Post : am_PT) : Array Value → State → Outcome → State → Prop := fun _ st oc t => (∃ (v : Option Value) (Λ : am_L) (I : am_I) (J : am_J), oc = .returned v ∧ Post v Λ I J ∧ am_rel G Λ I J t.heap) ∧ va_F (am_A G) st t
def am_XC (G : am_G) (PX : am_XT) : String → State → State → Prop := fun E st t => (∃ (Λ : am_L) (I : am_I) (J : am_J), PX E Λ I J ∧ am_rel G Λ I J t.heap) ∧ va_F (am_A G) st t
def am_Pc (G : am_G) (args : List Value) (Λ : am_L) (I : am_I) (J : am_J) : Array Value → State → Prop := va_Pc args (fun U => am_rel G Λ I J U.heap ∧ am_env G U)
/-- a method's contract: from the arguments and this memory it returns with Post, or throws with PX -/
def am_Ct (G : am_G) (y : MethodName) (b : ByteArray) (nL : Nat) (ret : Option FieldType) (R : Room) (args : List Value) (Λ : am_L) (I : am_I) (J : am_J) (Post : am_PT) (PX : am_XT) : Prop :=
  vx_Met G.1 y (Cond.code y b nL ret :: am_tbl) R (am_Pc G args Λ I J) (am_Qc G Post) (am_XC G PX) R.cells R.slots (am_A G)
/-- .. of a method with a table of handlers -/
def am_CtH (G : am_G) (y : MethodName) (b : ByteArray) (nL : Nat) (ret : Option FieldType) (hh : List (Nat × Nat × Nat × Nat)) (R : Room) (args : List Value) (Λ : am_L) (I : am_I) (J : am_J) (Post : am_PT) (PX : am_XT) : Prop :=
  vx_Met G.1 y (Cond.codeWith y b nL ret hh :: am_tbl) R (am_Pc G args Λ I J) (am_Qc G Post) (am_XC G PX) R.cells R.slots (am_A G)
/-- what a walk knows of its method -/
def am_Cx (G : am_G) (X : am_X) (own : String) (cc : ByteArray) (nL : Nat) (ret : Option FieldType) (tb : List ExceptionTableEntry) (Q : State → Prop) : Prop :=
  X.1.tables.exec = Jvm.exec ∧ X.2.2.2.2.2.2.2.1.code = cc ∧ X.2.2.2.2.2.2.2.1.maxLocals = nL ∧ X.2.2.1.vm.findClass own = some X.2.2.2.1.cls ∧ (∀ w ∈ am_tbl, w.before X.2.2.2.2.1 X.2.2.1 = true) ∧ am_env G X.2.2.1 ∧ X.2.2.2.2.2.2.1.locks = false ∧ X.2.2.2.2.2.2.1.sig.returnType = ret ∧ X.2.2.2.2.2.2.2.1.exceptionTable.toList = tb ∧ X.2.2.2.2.2.2.2.2 = Q
/-- the end of a method -/
def am_E (G : am_G) (X : am_X) (Post : am_PT) (PX : am_XT) (mc ms : Nat) : State → Prop := vx_MQ X.2.2.2.2.2.1 (am_Qc G Post) (am_XC G PX) X.2.2.2.2.1 X.2.2.1 mc ms (am_A G)
def am_K (G : am_G) (X : am_X) (R : Room) (nL : Nat) (Λ : am_L) (I : am_I) (J : am_J) (k n pc : Nat) (ls : List (Nat × Value)) (st : List Value) : Prop :=
  ∀ (H : Heap) (locs : List Loc) (la : Array Slot), am_rel G Λ I J H → va_S (am_A G) X.2.2.1.heap H locs → lv_has la nL ls → W X.1 G.1 X.2.1 R X.2.2.1 X.2.2.2.1 X.2.2.2.2.1 X.2.2.2.2.2.1 X.2.2.2.2.2.2.1 X.2.2.2.2.2.2.2.1 H locs k n X.2.2.2.2.2.2.2.2 (F0 X.2.2.2.1 pc la st)
/-- an exception of class E thrown at pc -/
def am_KX (G : am_G) (X : am_X) (R : Room) (nL : Nat) (Λ : am_L) (I : am_I) (J : am_J) (k n pc : Nat) (ls : List (Nat × Value)) (st : List Value) (E : String) : Prop :=
  ∀ (H : Heap) (locs : List Loc) (la : Array Slot) (q : Nat) (ce : Cell), am_rel G Λ I J H → va_S (am_A G) X.2.2.1.heap H locs → lv_has la nL ls → H[q]? = some ce → ce.vm = .none → X.2.2.1.vm.findClass E = some ce.cls → vx_W X.1 G.1 X.2.1 R X.2.2.1 X.2.2.2.1 X.2.2.2.2.1 X.2.2.2.2.2.1 X.2.2.2.2.2.2.1 X.2.2.2.2.2.2.2.1 H locs k n X.2.2.2.2.2.2.2.2 (F0 X.2.2.2.1 pc la st) q
theorem am_Cx.hx {G X own cc nL ret tb Q} (C : am_Cx G X own cc nL ret tb Q) : X.1.tables.exec = Jvm.exec := C.1
theorem am_Cx.hb {G X own cc nL ret tb Q} (C : am_Cx G X own cc nL ret tb Q) : X.2.2.2.2.2.2.2.1.code = cc := C.2.1
theorem am_Cx.hm {G X own cc nL ret tb Q} (C : am_Cx G X own cc nL ret tb Q) : X.2.2.2.2.2.2.2.1.maxLocals = nL := C.2.2.1
theorem am_Cx.ho {G X own cc nL ret tb Q} (C : am_Cx G X own cc nL ret tb Q) : X.2.2.1.vm.findClass own = some X.2.2.2.1.cls := C.2.2.2.1
theorem am_Cx.ht {G X own cc nL ret tb Q} (C : am_Cx G X own cc nL ret tb Q) : ∀ w ∈ am_tbl, w.before X.2.2.2.2.1 X.2.2.1 = true := C.2.2.2.2.1
theorem am_Cx.he {G X own cc nL ret tb Q} (C : am_Cx G X own cc nL ret tb Q) : am_env G X.2.2.1 := C.2.2.2.2.2.1
theorem am_Cx.hl {G X own cc nL ret tb Q} (C : am_Cx G X own cc nL ret tb Q) : X.2.2.2.2.2.2.1.locks = false := C.2.2.2.2.2.2.1
theorem am_Cx.hr {G X own cc nL ret tb Q} (C : am_Cx G X own cc nL ret tb Q) : X.2.2.2.2.2.2.1.sig.returnType = ret := C.2.2.2.2.2.2.2.1
theorem am_Cx.htb {G X own cc nL ret tb Q} (C : am_Cx G X own cc nL ret tb Q) : X.2.2.2.2.2.2.2.1.exceptionTable.toList = tb := C.2.2.2.2.2.2.2.2.1
theorem am_Cx.hq {G X own cc nL ret tb Q} (C : am_Cx G X own cc nL ret tb Q) : X.2.2.2.2.2.2.2.2 = Q := C.2.2.2.2.2.2.2.2.2
theorem am_Cx.hK {G X own cc nL ret tb Q} (C : am_Cx G X own cc nL ret tb Q) : va_K G.2.2.1 vwCl (am_tys G) X.2.2.1 := C.he.2.1
def am_up (I : am_I) (a k : Nat) (x : Int32) : am_I := fun b j => if b = a ∧ j = k then x else I b j
def am_ul (I : am_J) (a k : Nat) (x : Int64) : am_J := fun b j => if b = a ∧ j = k then x else I b j
def am_ur (I : Nat → Nat → Option Nat) (a k : Nat) (x : Option Nat) : Nat → Nat → Option Nat := fun b j => if b = a ∧ j = k then x else I b j
def am_us (I : Nat → Nat × Nat) (a : Nat) (x : Nat × Nat) : Nat → Nat × Nat := fun b => if b = a then x else I b
theorem am_up_row {I : am_I} {a k : Nat} {x : Int32} : am_up I a k x a = upd (I a) k x := by
  funext j
  simp [am_up, upd]
theorem am_ul_row {I : am_J} {a k : Nat} {x : Int64} : am_ul I a k x a = vp_updL (I a) k x := by
  funext j
  simp [am_ul, vp_updL]
theorem am_ur_row {I : Nat → Nat → Option Nat} {a k : Nat} {x : Option Nat} : am_ur I a k x a = va_up (I a) k x := by
  funext j
  simp [am_ur, va_up]
theorem am_up_ne {I : am_I} {a k b : Nat} {x : Int32} (h : b ≠ a) : am_up I a k x b = I b := by
  funext j
  simp [am_up, h]
theorem am_ul_ne {I : am_J} {a k b : Nat} {x : Int64} (h : b ≠ a) : am_ul I a k x b = I b := by
  funext j
  simp [am_ul, h]
theorem am_ur_ne {I : Nat → Nat → Option Nat} {a k b : Nat} {x : Option Nat} (h : b ≠ a) : am_ur I a k x b = I b := by
  funext j
  simp [am_ur, h]
/-- an object's cell, behind a change of one field -/
theorem am_at_put {G : am_G} {Λ Λ' : am_L} {I I' : am_I} {J J' : am_J} {H H' : Heap} (h : am_rel G Λ I J H) {a : Nat} (hs : Λ'.1 = Λ.1) (hr : ∀ b, b ≠ a → Λ'.2 b = Λ.2 b) (hi : ∀ b, b ≠ a → I' b = I b) (hj : ∀ b, b ≠ a → J' b = J b) (ha : am_at G Λ' I' J' a H') (hz : H'.size = H.size) (ho : ∀ q, q ≠ a → H'[q]? = H[q]?) : am_rel G Λ' I' J' H' := by
  refine ⟨fun b => ?_, fun b hb => ?_, ?_⟩
  · by_cases e : b = a
    · rw [e]; exact ha
    · have h1 := h.1 b
      unfold am_at at h1 ⊢
      rw [hs, hr b e, hi b e, hj b e]
      split at h1 <;> rename_i q1 <;> (try trivial)
      · obtain ⟨r, g1, g2⟩ := h1
        exact ⟨r, g1, g2.kept (ho b e)⟩
      all_goals (rw [ho b e]; exact h1)
  · rw [hs] at hb
    rw [hz]
    exact h.2.1 b hb
  · rw [hz]; exact h.2.2
theorem am_at_obj {G : am_G} {Λ : am_L} {I : am_I} {J : am_J} {H : Heap} (h : am_rel G Λ I J H) {a ci : Nat} (hs : Λ.1 a = (1, ci)) : ∃ r : vw_C, vwCl[ci]? = some r ∧ t_OB a (G.2.2.1.1 ci) r.2.2 (G.2.2.1.2 ci) H (fun k => am_fv (am_ty ci k) (Λ.2 a k) (I a k) (J a k)) := by
  have h1 := h.1 a
  unfold am_at at h1
  rw [hs] at h1
  exact h1
theorem am_at_i {G : am_G} {Λ : am_L} {I : am_I} {J : am_J} {H : Heap} (h : am_rel G Λ I J H) {a n : Nat} (hs : Λ.1 a = (2, n)) : H[a]? = some (vp_cell (G.2.2.2.1 0) (n, .inl (I a))) := by
  have h1 := h.1 a
  unfold am_at at h1
  rw [hs] at h1
  exact h1
theorem am_at_b {G : am_G} {Λ : am_L} {I : am_I} {J : am_J} {H : Heap} (h : am_rel G Λ I J H) {a n : Nat} (hs : Λ.1 a = (3, n)) : H[a]? = some (vp_cell (G.2.2.2.1 1) (n, .inl (I a))) := by
  have h1 := h.1 a
  unfold am_at at h1
  rw [hs] at h1
  exact h1
theorem am_at_z {G : am_G} {Λ : am_L} {I : am_I} {J : am_J} {H : Heap} (h : am_rel G Λ I J H) {a n : Nat} (hs : Λ.1 a = (4, n)) : H[a]? = some (vp_cell (G.2.2.2.1 2) (n, .inl (I a))) := by
  have h1 := h.1 a
  unfold am_at at h1
  rw [hs] at h1
  exact h1
theorem am_at_q {G : am_G} {Λ : am_L} {I : am_I} {J : am_J} {H : Heap} (h : am_rel G Λ I J H) {a n : Nat} (hs : Λ.1 a = (6, n)) : H[a]? = some (vp_cell (G.2.2.2.1 4) (n, .inr (.inr (.inr (.inr (Λ.2 a)))))) := by
  have h1 := h.1 a
  unfold am_at at h1
  rw [hs] at h1
  exact h1
theorem am_lay0 : GoodIn lw_tbl (u_ws RX0 TX0 17) := goodIn_r _ [171, 173, 175, 177, 179, 181, 183, 185, 187, 189, 191, 193, 195, 197, 199, 201, 203] (by decide +kernel) (by decide +kernel)
theorem am_lay1 : GoodIn lw_tbl (u_ws RX1 TX1 3) := goodIn_r _ [433, 435, 437] (by decide +kernel) (by decide +kernel)
theorem am_lay2 : GoodIn lw_tbl (u_ws RX2 TX2 8) := goodIn_r _ [216, 218, 220, 222, 224, 226, 228, 230] (by decide +kernel) (by decide +kernel)
theorem am_lay3 : GoodIn lw_tbl (u_ws RX3 TX3 13) := goodIn_r _ [104, 106, 108, 110, 112, 114, 116, 118, 120, 122, 124, 126, 128] (by decide +kernel) (by decide +kernel)
theorem am_lay4 : GoodIn lw_tbl (u_ws RX4 TX4 2) := goodIn_r _ [449, 451] (by decide +kernel) (by decide +kernel)
theorem am_lay5 : GoodIn lw_tbl (u_ws RX5 TX5 9) := goodIn_r _ [464, 466, 468, 470, 472, 474, 476, 478, 480] (by decide +kernel) (by decide +kernel)
theorem am_lay6 : GoodIn lw_tbl (u_ws RJ4 TJ4 4) := goodIn_r _ [1102, 1104, 1106, 1108] (by decide +kernel) (by decide +kernel)
theorem am_lay7 : GoodIn lw_tbl (u_ws RJ0 TJ0 4) := goodIn_r _ [1218, 1220, 1222, 1224] (by decide +kernel) (by decide +kernel)
theorem am_in {ws : List Cond} (h : GoodIn lw_tbl ws) : ∀ w ∈ ws, w ∈ am_tbl := fun w hw => by
  obtain ⟨h1, h2⟩ := h w hw
  refine am_wf h1 ?_
  rcases h2 with h2 | ⟨ty, rfl⟩
  · cases w <;> first | exact h2 | rfl
  · rfl
theorem am_good : ∀ w ∈ am_tbl, (w.onTables && w.keeps) = true ∨ ∃ ty, w = .arrayClass ty := fun w h => good_of_word (am_gw w h)
theorem am_goodc {w0 : Cond} (h : w0 ∈ am_tbl) : GoodIn am_tbl (w0 :: am_tbl) := fun w hw => by
  rcases List.mem_cons.mp hw with e | e
  · rw [e]; exact ⟨h, am_good _ h⟩
  · exact ⟨e, am_good _ e⟩
/-- the facts of a class, by its number -/
def am_cf (ci : Nat) : Prop := ∀ q : vw_C, vwCl[ci]? = some q → (∀ w ∈ u_ws q.1 q.2.1 q.2.2, w ∈ am_tbl) ∧ (∀ k, k < q.2.2 → parseFieldDescriptor (q.2.1 k).2.2.1 = some (am_ty ci k)) ∧ ∀ a, a < q.2.2 → ∀ b, b < q.2.2 → a ≠ b → (q.2.1 a).2.1 ≠ (q.2.1 b).2.1
theorem am_cf0 : am_cf 0 := fun q hq => by cases hq; exact ⟨am_in am_lay0, tyX0_ok, nmX0⟩
theorem am_cf1 : am_cf 1 := fun q hq => by cases hq; exact ⟨am_in am_lay1, tyX1_ok, nmX1⟩
theorem am_cf2 : am_cf 2 := fun q hq => by cases hq; exact ⟨am_in am_lay2, tyX2_ok, nmX2⟩
theorem am_cf3 : am_cf 3 := fun q hq => by cases hq; exact ⟨am_in am_lay3, tyX3_ok, nmX3⟩
theorem am_cf4 : am_cf 4 := fun q hq => by cases hq; exact ⟨am_in am_lay4, tyX4_ok, nmX4⟩
theorem am_cf5 : am_cf 5 := fun q hq => by cases hq; exact ⟨am_in am_lay5, tyX5_ok, nmX5⟩
theorem am_cf6 : am_cf 6 := fun q hq => by cases hq; exact ⟨am_in am_lay6, tyJ4_ok, nmJ4⟩
theorem am_cf7 : am_cf 7 := fun q hq => by cases hq; exact ⟨am_in am_lay7, tyJ0_ok, nmJ0⟩
theorem am_cfa (ci : Nat) (h : ci < 8) : am_cf ci := by
  match ci, h with
  | 0, _ => exact am_cf0
  | 1, _ => exact am_cf1
  | 2, _ => exact am_cf2
  | 3, _ => exact am_cf3
  | 4, _ => exact am_cf4
  | 5, _ => exact am_cf5
  | 6, _ => exact am_cf6
  | 7, _ => exact am_cf7
theorem am_ci {ci : Nat} {q : vw_C} (h : vwCl[ci]? = some q) : ci < 8 := (List.getElem?_eq_some_iff.mp h).1
section AM
variable {G : am_G} {X : am_X} {R : Room} {own : String} {cc : ByteArray} {nL : Nat} {ret : Option FieldType} {tb : List ExceptionTableEntry} {Q : State → Prop}
variable {Λ : am_L} {I : am_I} {J : am_J} {k n pc : Nat} {ls : List (Nat × Value)} {st : List Value}
theorem k_iload (C : am_Cx G X own cc nL ret tb Q) {i p : Nat} {x : Int32} (hk : ls[p]? = some (i, Value.int x)) (hd : decode cc pc = .ok (.iload i, 2)) (kk : am_K G X R nL Λ I J k n (pc + 2) ls (.int x :: st)) : am_K G X R nL Λ I J k n (pc) ls (st) := fun H locs la hR hS hl => lv_iload C.hx C.hb hd (lv_at hl p hk) (kk H locs la hR hS hl)
theorem k_iload_n (C : am_Cx G X own cc nL ret tb Q) {f : Fin 4} {i p : Nat} {x : Int32} (hi : (f : Nat) = i) (hk : ls[p]? = some (i, Value.int x)) (hd : decode cc pc = .ok (.iload_n f, 1)) (kk : am_K G X R nL Λ I J k n (pc + 1) ls (.int x :: st)) : am_K G X R nL Λ I J k n (pc) ls (st) := fun H locs la hR hS hl => lv_iload_n C.hx C.hb hd hi (lv_at hl p hk) (kk H locs la hR hS hl)
theorem k_aload (C : am_Cx G X own cc nL ret tb Q) {i p : Nat} {x : Nat} (hk : ls[p]? = some (i, Value.ref x)) (hd : decode cc pc = .ok (.aload i, 2)) (kk : am_K G X R nL Λ I J k n (pc + 2) ls (.ref x :: st)) : am_K G X R nL Λ I J k n (pc) ls (st) := fun H locs la hR hS hl => lv_aload C.hx C.hb hd (lv_at hl p hk) (kk H locs la hR hS hl)
theorem k_aload_n (C : am_Cx G X own cc nL ret tb Q) {f : Fin 4} {i p : Nat} {x : Nat} (hi : (f : Nat) = i) (hk : ls[p]? = some (i, Value.ref x)) (hd : decode cc pc = .ok (.aload_n f, 1)) (kk : am_K G X R nL Λ I J k n (pc + 1) ls (.ref x :: st)) : am_K G X R nL Λ I J k n (pc) ls (st) := fun H locs la hR hS hl => lv_aload_n C.hx C.hb hd hi (lv_at hl p hk) (kk H locs la hR hS hl)
theorem k_lload (C : am_Cx G X own cc nL ret tb Q) {i p : Nat} {x : Int64} (hk : ls[p]? = some (i, Value.long x)) (hd : decode cc pc = .ok (.lload i, 2)) (kk : am_K G X R nL Λ I J k n (pc + 2) ls (.long x :: st)) : am_K G X R nL Λ I J k n (pc) ls (st) := fun H locs la hR hS hl => lv_lload C.hx C.hb hd (lv_at hl p hk) (kk H locs la hR hS hl)
theorem k_lload_n (C : am_Cx G X own cc nL ret tb Q) {f : Fin 4} {i p : Nat} {x : Int64} (hi : (f : Nat) = i) (hk : ls[p]? = some (i, Value.long x)) (hd : decode cc pc = .ok (.lload_n f, 1)) (kk : am_K G X R nL Λ I J k n (pc + 1) ls (.long x :: st)) : am_K G X R nL Λ I J k n (pc) ls (st) := fun H locs la hR hS hl => lv_lload_n C.hx C.hb hd hi (lv_at hl p hk) (kk H locs la hR hS hl)
theorem k_dload (C : am_Cx G X own cc nL ret tb Q) {i p : Nat} {x : UInt64} (hk : ls[p]? = some (i, Value.double x)) (hd : decode cc pc = .ok (.dload i, 2)) (kk : am_K G X R nL Λ I J k n (pc + 2) ls (.double x :: st)) : am_K G X R nL Λ I J k n (pc) ls (st) := fun H locs la hR hS hl => lv_dload C.hx C.hb hd (lv_at hl p hk) (kk H locs la hR hS hl)
theorem k_dload_n (C : am_Cx G X own cc nL ret tb Q) {f : Fin 4} {i p : Nat} {x : UInt64} (hi : (f : Nat) = i) (hk : ls[p]? = some (i, Value.double x)) (hd : decode cc pc = .ok (.dload_n f, 1)) (kk : am_K G X R nL Λ I J k n (pc + 1) ls (.double x :: st)) : am_K G X R nL Λ I J k n (pc) ls (st) := fun H locs la hR hS hl => lv_dload_n C.hx C.hb hd hi (lv_at hl p hk) (kk H locs la hR hS hl)
theorem k_istore (C : am_Cx G X own cc nL ret tb Q) {i : Nat} {x : Int32} {lv : List (Nat × Value)} (hi : i < nL) (hv : (i, Value.int x) :: ls.filter (fun q => !(q.1 == i) && !(q.1 + 1 == i && q.2.category == 2)) = lv) (hd : decode cc pc = .ok (.istore i, 2)) (kk : am_K G X R nL Λ I J k n (pc + 2) lv (st)) : am_K G X R nL Λ I J k n (pc) ls (.int x :: st) := fun H locs la hR hS hl => lv_istore C.hx C.hb hd hl hi hv (fun la hl => kk H locs la hR hS hl)
theorem k_istore_n (C : am_Cx G X own cc nL ret tb Q) {f : Fin 4} {i : Nat} {x : Int32} {lv : List (Nat × Value)} (hf : (f : Nat) = i) (hi : i < nL) (hv : (i, Value.int x) :: ls.filter (fun q => !(q.1 == i) && !(q.1 + 1 == i && q.2.category == 2)) = lv) (hd : decode cc pc = .ok (.istore_n f, 1)) (kk : am_K G X R nL Λ I J k n (pc + 1) lv (st)) : am_K G X R nL Λ I J k n (pc) ls (.int x :: st) := fun H locs la hR hS hl => lv_istore_n C.hx C.hb hd hf hl hi hv (fun la hl => kk H locs la hR hS hl)
theorem k_astore (C : am_Cx G X own cc nL ret tb Q) {i : Nat} {x : Nat} {lv : List (Nat × Value)} (hi : i < nL) (hv : (i, Value.ref x) :: ls.filter (fun q => !(q.1 == i) && !(q.1 + 1 == i && q.2.category == 2)) = lv) (hd : decode cc pc = .ok (.astore i, 2)) (kk : am_K G X R nL Λ I J k n (pc + 2) lv (st)) : am_K G X R nL Λ I J k n (pc) ls (.ref x :: st) := fun H locs la hR hS hl => lv_astore C.hx C.hb hd hl hi hv (fun la hl => kk H locs la hR hS hl)
theorem k_astore_n (C : am_Cx G X own cc nL ret tb Q) {f : Fin 4} {i : Nat} {x : Nat} {lv : List (Nat × Value)} (hf : (f : Nat) = i) (hi : i < nL) (hv : (i, Value.ref x) :: ls.filter (fun q => !(q.1 == i) && !(q.1 + 1 == i && q.2.category == 2)) = lv) (hd : decode cc pc = .ok (.astore_n f, 1)) (kk : am_K G X R nL Λ I J k n (pc + 1) lv (st)) : am_K G X R nL Λ I J k n (pc) ls (.ref x :: st) := fun H locs la hR hS hl => lv_astore_n C.hx C.hb hd hf hl hi hv (fun la hl => kk H locs la hR hS hl)
theorem k_dstore (C : am_Cx G X own cc nL ret tb Q) {i : Nat} {x : UInt64} {lv : List (Nat × Value)} (hi : i + 1 < nL) (hv : (i, Value.double x) :: ls.filter (fun q => !(q.1 == i) && (!(q.1 == i + 1) && !(q.1 + 1 == i && q.2.category == 2))) = lv) (hd : decode cc pc = .ok (.dstore i, 2)) (kk : am_K G X R nL Λ I J k n (pc + 2) lv (st)) : am_K G X R nL Λ I J k n (pc) ls (.double x :: st) := fun H locs la hR hS hl => lv_dstore C.hx C.hb hd hl hi hv (fun la hl => kk H locs la hR hS hl)
theorem k_iinc (C : am_Cx G X own cc nL ret tb Q) {i p : Nat} {d : Int} {x v : Int32} {lv : List (Nat × Value)} (hi : i < nL) (hk : ls[p]? = some (i, .int x)) (hx : x + Int32.ofInt d = v) (hv : (i, Value.int v) :: ls.filter (fun q => !(q.1 == i) && !(q.1 + 1 == i && q.2.category == 2)) = lv) (hd : decode cc pc = .ok (.iinc i d, 3)) (kk : am_K G X R nL Λ I J k n (pc + 3) lv (st)) : am_K G X R nL Λ I J k n (pc) ls (st) := fun H locs la hR hS hl => lv_iinc C.hx C.hb hd hl hk hx hi hv (fun la hl => kk H locs la hR hS hl)
theorem k_iconst (C : am_Cx G X own cc nL ret tb Q) {m : Int} {v : Int32} (hv : Int32.ofInt m = v) (hd : decode cc pc = .ok (.iconst m, 1)) (kk : am_K G X R nL Λ I J k n (pc + 1) ls (.int v :: st)) : am_K G X R nL Λ I J k n (pc) ls (st) := fun H locs la hR hS hl => lv_iconst C.hx C.hb hd hv (kk H locs la hR hS hl)
theorem k_bipush (C : am_Cx G X own cc nL ret tb Q) {m : Int} {v : Int32} (hv : (Int8.ofInt m).toInt32 = v) (hd : decode cc pc = .ok (.bipush m, 2)) (kk : am_K G X R nL Λ I J k n (pc + 2) ls (.int v :: st)) : am_K G X R nL Λ I J k n (pc) ls (st) := fun H locs la hR hS hl => lv_bipush C.hx C.hb hd hv (kk H locs la hR hS hl)
theorem k_sipush (C : am_Cx G X own cc nL ret tb Q) {m : Int} {v : Int32} (hv : (Int16.ofInt m).toInt32 = v) (hd : decode cc pc = .ok (.sipush m, 3)) (kk : am_K G X R nL Λ I J k n (pc + 3) ls (.int v :: st)) : am_K G X R nL Λ I J k n (pc) ls (st) := fun H locs la hR hS hl => lv_sipush C.hx C.hb hd hv (kk H locs la hR hS hl)
theorem k_lconst (C : am_Cx G X own cc nL ret tb Q) {m : Fin 2} {v : Int64} (hv : Int64.ofNat (m : Nat) = v) (hd : decode cc pc = .ok (.lconst m, 1)) (kk : am_K G X R nL Λ I J k n (pc + 1) ls (.long v :: st)) : am_K G X R nL Λ I J k n (pc) ls (st) := fun H locs la hR hS hl => lv_lconst C.hx C.hb hd hv (kk H locs la hR hS hl)
theorem k_fconst0 (C : am_Cx G X own cc nL ret tb Q)  (hd : decode cc pc = .ok (.fconst 0, 1)) (kk : am_K G X R nL Λ I J k n (pc + 1) ls (.float FP.fconst0 :: st)) : am_K G X R nL Λ I J k n (pc) ls (st) := fun H locs la hR hS hl => lv_fconst0 C.hx C.hb hd  (kk H locs la hR hS hl)
theorem k_dconst0 (C : am_Cx G X own cc nL ret tb Q)  (hd : decode cc pc = .ok (.dconst 0, 1)) (kk : am_K G X R nL Λ I J k n (pc + 1) ls (.double FP.dconst0 :: st)) : am_K G X R nL Λ I J k n (pc) ls (st) := fun H locs la hR hS hl => lv_dconst0 C.hx C.hb hd  (kk H locs la hR hS hl)
theorem k_ldc2 (C : am_Cx G X own cc nL ret tb Q) {idx : Nat} {v : Int64} (hw : Cond.constantLong own idx v ∈ am_tbl) (hd : decode cc pc = .ok (.ldc2_w idx, 3)) (kk : am_K G X R nL Λ I J k n (pc + 3) ls (.long v :: st)) : am_K G X R nL Λ I J k n (pc) ls (st) := fun H locs la hR hS hl => lv_ldc2 C.hx C.hb C.ho (C.ht _ hw) hd (kk H locs la hR hS hl)
theorem k_iadd (C : am_Cx G X own cc nL ret tb Q) {x y : Int32} (hd : decode cc pc = .ok (.iadd, 1)) (kk : am_K G X R nL Λ I J k n (pc + 1) ls (.int (x + y) :: st)) : am_K G X R nL Λ I J k n (pc) ls (.int y :: .int x :: st) := fun H locs la hR hS hl => lv_iadd C.hx C.hb hd  (kk H locs la hR hS hl)
theorem k_isub (C : am_Cx G X own cc nL ret tb Q) {x y : Int32} (hd : decode cc pc = .ok (.isub, 1)) (kk : am_K G X R nL Λ I J k n (pc + 1) ls (.int (x - y) :: st)) : am_K G X R nL Λ I J k n (pc) ls (.int y :: .int x :: st) := fun H locs la hR hS hl => lv_isub C.hx C.hb hd  (kk H locs la hR hS hl)
theorem k_imul (C : am_Cx G X own cc nL ret tb Q) {x y : Int32} (hd : decode cc pc = .ok (.imul, 1)) (kk : am_K G X R nL Λ I J k n (pc + 1) ls (.int (x * y) :: st)) : am_K G X R nL Λ I J k n (pc) ls (.int y :: .int x :: st) := fun H locs la hR hS hl => lv_imul C.hx C.hb hd  (kk H locs la hR hS hl)
theorem k_iand (C : am_Cx G X own cc nL ret tb Q) {x y : Int32} (hd : decode cc pc = .ok (.iand, 1)) (kk : am_K G X R nL Λ I J k n (pc + 1) ls (.int (x &&& y) :: st)) : am_K G X R nL Λ I J k n (pc) ls (.int y :: .int x :: st) := fun H locs la hR hS hl => lv_iand C.hx C.hb hd  (kk H locs la hR hS hl)
theorem k_ishr (C : am_Cx G X own cc nL ret tb Q) {x y : Int32} (hd : decode cc pc = .ok (.ishr, 1)) (kk : am_K G X R nL Λ I J k n (pc + 1) ls (.int (x >>> (y &&& 31)) :: st)) : am_K G X R nL Λ I J k n (pc) ls (.int y :: .int x :: st) := fun H locs la hR hS hl => lv_ishr C.hx C.hb hd  (kk H locs la hR hS hl)
theorem k_idiv (C : am_Cx G X own cc nL ret tb Q) {x y : Int32} (hne : ¬ y = 0) (hd : decode cc pc = .ok (.idiv, 1)) (kk : am_K G X R nL Λ I J k n (pc + 1) ls (.int (x / y) :: st)) : am_K G X R nL Λ I J k n (pc) ls (.int y :: .int x :: st) := fun H locs la hR hS hl => lv_idiv C.hx C.hb hd hne (kk H locs la hR hS hl)
theorem k_irem (C : am_Cx G X own cc nL ret tb Q) {x y : Int32} (hne : ¬ y = 0) (hd : decode cc pc = .ok (.irem, 1)) (kk : am_K G X R nL Λ I J k n (pc + 1) ls (.int (x - x / y * y) :: st)) : am_K G X R nL Λ I J k n (pc) ls (.int y :: .int x :: st) := fun H locs la hR hS hl => lv_irem C.hx C.hb hd hne (kk H locs la hR hS hl)
theorem k_iushr (C : am_Cx G X own cc nL ret tb Q) {x y v : Int32} (hv : (x.toUInt32 >>> (y.toUInt32 &&& Int32.toUInt32 31)).toInt32 = v) (hd : decode cc pc = .ok (.iushr, 1)) (kk : am_K G X R nL Λ I J k n (pc + 1) ls (.int v :: st)) : am_K G X R nL Λ I J k n (pc) ls (.int y :: .int x :: st) := fun H locs la hR hS hl => lv_iushr C.hx C.hb hd hv (kk H locs la hR hS hl)
theorem k_ladd (C : am_Cx G X own cc nL ret tb Q) {x y : Int64} (hd : decode cc pc = .ok (.ladd, 1)) (kk : am_K G X R nL Λ I J k n (pc + 1) ls (.long (x + y) :: st)) : am_K G X R nL Λ I J k n (pc) ls (.long y :: .long x :: st) := fun H locs la hR hS hl => lv_ladd C.hx C.hb hd  (kk H locs la hR hS hl)
theorem k_lsub (C : am_Cx G X own cc nL ret tb Q) {x y : Int64} (hd : decode cc pc = .ok (.lsub, 1)) (kk : am_K G X R nL Λ I J k n (pc + 1) ls (.long (x - y) :: st)) : am_K G X R nL Λ I J k n (pc) ls (.long y :: .long x :: st) := fun H locs la hR hS hl => lv_lsub C.hx C.hb hd  (kk H locs la hR hS hl)
theorem k_lmul (C : am_Cx G X own cc nL ret tb Q) {x y : Int64} (hd : decode cc pc = .ok (.lmul, 1)) (kk : am_K G X R nL Λ I J k n (pc + 1) ls (.long (x * y) :: st)) : am_K G X R nL Λ I J k n (pc) ls (.long y :: .long x :: st) := fun H locs la hR hS hl => lv_lmul C.hx C.hb hd  (kk H locs la hR hS hl)
theorem k_lcmp (C : am_Cx G X own cc nL ret tb Q) {x y : Int64} (hd : decode cc pc = .ok (.lcmp, 1)) (kk : am_K G X R nL Λ I J k n (pc + 1) ls (.int (lg_cmp x y) :: st)) : am_K G X R nL Λ I J k n (pc) ls (.long y :: .long x :: st) := fun H locs la hR hS hl => W.lcmp C.hx C.hb hd  (kk H locs la hR hS hl)
theorem k_i2l (C : am_Cx G X own cc nL ret tb Q) {x : Int32} {v : Int64} (hv : x.toInt64 = v) (hd : decode cc pc = .ok (.i2l, 1)) (kk : am_K G X R nL Λ I J k n (pc + 1) ls (.long v :: st)) : am_K G X R nL Λ I J k n (pc) ls (.int x :: st) := fun H locs la hR hS hl => lv_i2l C.hx C.hb hd hv (kk H locs la hR hS hl)
theorem k_i2b (C : am_Cx G X own cc nL ret tb Q) {x v : Int32} (hv : x.toInt8.toInt32 = v) (hd : decode cc pc = .ok (.i2b, 1)) (kk : am_K G X R nL Λ I J k n (pc + 1) ls (.int v :: st)) : am_K G X R nL Λ I J k n (pc) ls (.int x :: st) := fun H locs la hR hS hl => lv_i2b C.hx C.hb hd hv (kk H locs la hR hS hl)
theorem k_i2c (C : am_Cx G X own cc nL ret tb Q) {x v : Int32} (hv : (x.toUInt32 % 65536).toInt32 = v) (hd : decode cc pc = .ok (.i2c, 1)) (kk : am_K G X R nL Λ I J k n (pc + 1) ls (.int v :: st)) : am_K G X R nL Λ I J k n (pc) ls (.int x :: st) := fun H locs la hR hS hl => lv_i2c C.hx C.hb hd hv (kk H locs la hR hS hl)
theorem k_i2d (C : am_Cx G X own cc nL ret tb Q) {x : Int32} (hd : decode cc pc = .ok (.i2d, 1)) (kk : am_K G X R nL Λ I J k n (pc + 1) ls (.double (FP.i2d x) :: st)) : am_K G X R nL Λ I J k n (pc) ls (.int x :: st) := fun H locs la hR hS hl => lv_i2d C.hx C.hb hd  (kk H locs la hR hS hl)
theorem k_i2f (C : am_Cx G X own cc nL ret tb Q) {x : Int32} (hd : decode cc pc = .ok (.i2f, 1)) (kk : am_K G X R nL Λ I J k n (pc + 1) ls (.float (FP.i2f x) :: st)) : am_K G X R nL Λ I J k n (pc) ls (.int x :: st) := fun H locs la hR hS hl => lv_i2f C.hx C.hb hd  (kk H locs la hR hS hl)
theorem k_f2d (C : am_Cx G X own cc nL ret tb Q) {x : UInt32} (hne : vf_n64 (FP.f2d x)) (hd : decode cc pc = .ok (.f2d, 1)) (kk : am_K G X R nL Λ I J k n (pc + 1) ls (.double (FP.f2d x) :: st)) : am_K G X R nL Λ I J k n (pc) ls (.float x :: st) := fun H locs la hR hS hl => lv_f2d C.hx C.hb hd hne (kk H locs la hR hS hl)
theorem k_fdiv (C : am_Cx G X own cc nL ret tb Q) {x y : UInt32} (hne : vf_n32 (FP.fdiv x y)) (hd : decode cc pc = .ok (.fdiv, 1)) (kk : am_K G X R nL Λ I J k n (pc + 1) ls (.float (FP.fdiv x y) :: st)) : am_K G X R nL Λ I J k n (pc) ls (.float y :: .float x :: st) := fun H locs la hR hS hl => lv_fdiv C.hx C.hb hd hne (kk H locs la hR hS hl)
theorem k_ddiv (C : am_Cx G X own cc nL ret tb Q) {x y : UInt64} (hne : vf_n64 (FP.ddiv x y)) (hd : decode cc pc = .ok (.ddiv, 1)) (kk : am_K G X R nL Λ I J k n (pc + 1) ls (.double (FP.ddiv x y) :: st)) : am_K G X R nL Λ I J k n (pc) ls (.double y :: .double x :: st) := fun H locs la hR hS hl => lv_ddiv C.hx C.hb hd hne (kk H locs la hR hS hl)
theorem k_dup (C : am_Cx G X own cc nL ret tb Q) {v : Value} (hv : v.category = 1) (hd : decode cc pc = .ok (.dup, 1)) (kk : am_K G X R nL Λ I J k n (pc + 1) ls (v :: v :: st)) : am_K G X R nL Λ I J k n (pc) ls (v :: st) := fun H locs la hR hS hl => lv_dup C.hx C.hb hd hv (kk H locs la hR hS hl)
theorem k_dup2 (C : am_Cx G X own cc nL ret tb Q) {v u : Value} (hv : v.category = 1) (hu : u.category = 1) (hd : decode cc pc = .ok (.dup2, 1)) (kk : am_K G X R nL Λ I J k n (pc + 1) ls (v :: u :: v :: u :: st)) : am_K G X R nL Λ I J k n (pc) ls (v :: u :: st) := fun H locs la hR hS hl => lv_dup2_11 C.hx C.hb hd hv hu (kk H locs la hR hS hl)
theorem k_pop (C : am_Cx G X own cc nL ret tb Q) {v : Value} (hv : v.category = 1) (hd : decode cc pc = .ok (.pop, 1)) (kk : am_K G X R nL Λ I J k n (pc + 1) ls (st)) : am_K G X R nL Λ I J k n (pc) ls (v :: st) := fun H locs la hR hS hl => lv_pop C.hx C.hb hd hv (kk H locs la hR hS hl)
theorem k_if_eq (C : am_Cx G X own cc nL ret tb Q) {x : Int32} {off : Int} {tgt : Nat} (ht : (pc : Int) + off = (tgt : Int)) (hd : decode cc pc = .ok (.ifCond .eq off, 3)) (kt : x = 0 → am_K G X R nL Λ I J k n (tgt) ls (st)) (kf : ¬ x = 0 → am_K G X R nL Λ I J k n (pc + 3) ls (st)) : am_K G X R nL Λ I J k n (pc) ls (.int x :: st) := fun H locs la hR hS hl => lv_if_eq C.hx C.hb hd ht (fun c => kt c H locs la hR hS hl) (fun c => kf c H locs la hR hS hl)
theorem k_if_ne (C : am_Cx G X own cc nL ret tb Q) {x : Int32} {off : Int} {tgt : Nat} (ht : (pc : Int) + off = (tgt : Int)) (hd : decode cc pc = .ok (.ifCond .ne off, 3)) (kt : ¬ x = 0 → am_K G X R nL Λ I J k n (tgt) ls (st)) (kf : x = 0 → am_K G X R nL Λ I J k n (pc + 3) ls (st)) : am_K G X R nL Λ I J k n (pc) ls (.int x :: st) := fun H locs la hR hS hl => lv_if_ne C.hx C.hb hd ht (fun c => kt c H locs la hR hS hl) (fun c => kf c H locs la hR hS hl)
theorem k_if_lt (C : am_Cx G X own cc nL ret tb Q) {x : Int32} {off : Int} {tgt : Nat} (ht : (pc : Int) + off = (tgt : Int)) (hd : decode cc pc = .ok (.ifCond .lt off, 3)) (kt : x < 0 → am_K G X R nL Λ I J k n (tgt) ls (st)) (kf : ¬ x < 0 → am_K G X R nL Λ I J k n (pc + 3) ls (st)) : am_K G X R nL Λ I J k n (pc) ls (.int x :: st) := fun H locs la hR hS hl => lv_if_lt C.hx C.hb hd ht (fun c => kt c H locs la hR hS hl) (fun c => kf c H locs la hR hS hl)
theorem k_if_ge (C : am_Cx G X own cc nL ret tb Q) {x : Int32} {off : Int} {tgt : Nat} (ht : (pc : Int) + off = (tgt : Int)) (hd : decode cc pc = .ok (.ifCond .ge off, 3)) (kt : 0 ≤ x → am_K G X R nL Λ I J k n (tgt) ls (st)) (kf : ¬ 0 ≤ x → am_K G X R nL Λ I J k n (pc + 3) ls (st)) : am_K G X R nL Λ I J k n (pc) ls (.int x :: st) := fun H locs la hR hS hl => lv_if_ge C.hx C.hb hd ht (fun c => kt c H locs la hR hS hl) (fun c => kf c H locs la hR hS hl)
theorem k_if_gt (C : am_Cx G X own cc nL ret tb Q) {x : Int32} {off : Int} {tgt : Nat} (ht : (pc : Int) + off = (tgt : Int)) (hd : decode cc pc = .ok (.ifCond .gt off, 3)) (kt : 0 < x → am_K G X R nL Λ I J k n (tgt) ls (st)) (kf : ¬ 0 < x → am_K G X R nL Λ I J k n (pc + 3) ls (st)) : am_K G X R nL Λ I J k n (pc) ls (.int x :: st) := fun H locs la hR hS hl => lv_if_gt C.hx C.hb hd ht (fun c => kt c H locs la hR hS hl) (fun c => kf c H locs la hR hS hl)
theorem k_if_le (C : am_Cx G X own cc nL ret tb Q) {x : Int32} {off : Int} {tgt : Nat} (ht : (pc : Int) + off = (tgt : Int)) (hd : decode cc pc = .ok (.ifCond .le off, 3)) (kt : x ≤ 0 → am_K G X R nL Λ I J k n (tgt) ls (st)) (kf : ¬ x ≤ 0 → am_K G X R nL Λ I J k n (pc + 3) ls (st)) : am_K G X R nL Λ I J k n (pc) ls (.int x :: st) := fun H locs la hR hS hl => lv_if_le C.hx C.hb hd ht (fun c => kt c H locs la hR hS hl) (fun c => kf c H locs la hR hS hl)
theorem k_icmp_eq (C : am_Cx G X own cc nL ret tb Q) {x y : Int32} {off : Int} {tgt : Nat} (ht : (pc : Int) + off = (tgt : Int)) (hd : decode cc pc = .ok (.if_icmp .eq off, 3)) (kt : x = y → am_K G X R nL Λ I J k n (tgt) ls (st)) (kf : ¬ x = y → am_K G X R nL Λ I J k n (pc + 3) ls (st)) : am_K G X R nL Λ I J k n (pc) ls (.int y :: .int x :: st) := fun H locs la hR hS hl => lv_icmp_eq C.hx C.hb hd ht (fun c => kt c H locs la hR hS hl) (fun c => kf c H locs la hR hS hl)
theorem k_icmp_ne (C : am_Cx G X own cc nL ret tb Q) {x y : Int32} {off : Int} {tgt : Nat} (ht : (pc : Int) + off = (tgt : Int)) (hd : decode cc pc = .ok (.if_icmp .ne off, 3)) (kt : ¬ x = y → am_K G X R nL Λ I J k n (tgt) ls (st)) (kf : x = y → am_K G X R nL Λ I J k n (pc + 3) ls (st)) : am_K G X R nL Λ I J k n (pc) ls (.int y :: .int x :: st) := fun H locs la hR hS hl => lv_icmp_ne C.hx C.hb hd ht (fun c => kt c H locs la hR hS hl) (fun c => kf c H locs la hR hS hl)
theorem k_icmp_lt (C : am_Cx G X own cc nL ret tb Q) {x y : Int32} {off : Int} {tgt : Nat} (ht : (pc : Int) + off = (tgt : Int)) (hd : decode cc pc = .ok (.if_icmp .lt off, 3)) (kt : x < y → am_K G X R nL Λ I J k n (tgt) ls (st)) (kf : ¬ x < y → am_K G X R nL Λ I J k n (pc + 3) ls (st)) : am_K G X R nL Λ I J k n (pc) ls (.int y :: .int x :: st) := fun H locs la hR hS hl => lv_icmp_lt C.hx C.hb hd ht (fun c => kt c H locs la hR hS hl) (fun c => kf c H locs la hR hS hl)
theorem k_icmp_ge (C : am_Cx G X own cc nL ret tb Q) {x y : Int32} {off : Int} {tgt : Nat} (ht : (pc : Int) + off = (tgt : Int)) (hd : decode cc pc = .ok (.if_icmp .ge off, 3)) (kt : y ≤ x → am_K G X R nL Λ I J k n (tgt) ls (st)) (kf : ¬ y ≤ x → am_K G X R nL Λ I J k n (pc + 3) ls (st)) : am_K G X R nL Λ I J k n (pc) ls (.int y :: .int x :: st) := fun H locs la hR hS hl => lv_icmp_ge C.hx C.hb hd ht (fun c => kt c H locs la hR hS hl) (fun c => kf c H locs la hR hS hl)
theorem k_icmp_gt (C : am_Cx G X own cc nL ret tb Q) {x y : Int32} {off : Int} {tgt : Nat} (ht : (pc : Int) + off = (tgt : Int)) (hd : decode cc pc = .ok (.if_icmp .gt off, 3)) (kt : y < x → am_K G X R nL Λ I J k n (tgt) ls (st)) (kf : ¬ y < x → am_K G X R nL Λ I J k n (pc + 3) ls (st)) : am_K G X R nL Λ I J k n (pc) ls (.int y :: .int x :: st) := fun H locs la hR hS hl => lv_icmp_gt C.hx C.hb hd ht (fun c => kt c H locs la hR hS hl) (fun c => kf c H locs la hR hS hl)
theorem k_icmp_le (C : am_Cx G X own cc nL ret tb Q) {x y : Int32} {off : Int} {tgt : Nat} (ht : (pc : Int) + off = (tgt : Int)) (hd : decode cc pc = .ok (.if_icmp .le off, 3)) (kt : x ≤ y → am_K G X R nL Λ I J k n (tgt) ls (st)) (kf : ¬ x ≤ y → am_K G X R nL Λ I J k n (pc + 3) ls (st)) : am_K G X R nL Λ I J k n (pc) ls (.int y :: .int x :: st) := fun H locs la hR hS hl => lv_icmp_le C.hx C.hb hd ht (fun c => kt c H locs la hR hS hl) (fun c => kf c H locs la hR hS hl)
theorem k_goto (C : am_Cx G X own cc nL ret tb Q) {off : Int} {tgt : Nat} (ht : (pc : Int) + off = (tgt : Int)) (hd : decode cc pc = .ok (.goto off, 3)) (kk : am_K G X R nL Λ I J k n (tgt) ls (st)) : am_K G X R nL Λ I J k n (pc) ls (st) := fun H locs la hR hS hl => lv_goto C.hx C.hb hd ht (kk H locs la hR hS hl)
theorem am_slot {idx ci kf : Nat} {q : vw_C} (hF : am_F own idx ci kf q) (C : am_Cx G X own cc nL ret tb Q) : ∃ (cf : Nat) (kc : Class) (fi : Nat) (f : Field), X.2.2.1.fieldFound? (q.2.1 kf).1 (q.2.1 kf).2.1 (q.2.1 kf).2.2.1 = some (cf, kc, fi, f) ∧ f.slot = G.2.2.1.2 ci kf ∧ f.isStatic = false := by
  obtain ⟨h1, h2, h3⟩ := hF
  obtain ⟨hS, hfc, kC, hkC, hkind⟩ := C.hK.1 ci _ h1
  obtain ⟨cf, kf, fi, f, hi, hsl⟩ := hS _ h2
  exact ⟨cf, kf, fi, f, hi, hsl, (u_facts hfc hkC (u_lays C.ht ((am_cfa ci (am_ci h1)) q h1).1 h2) hi).1⟩
theorem k_get (C : am_Cx G X own cc nL ret tb Q) {a idx ci kf : Nat} {q : vw_C} {v : Value} (hF : am_F own idx ci kf q) (hs : Λ.1 a = (1, ci)) (hv : am_fv (am_ty ci kf) (Λ.2 a kf) (I a kf) (J a kf) = v) (hd : decode cc pc = .ok (.getfield idx, 3)) (kk : am_K G X R nL Λ I J k n (pc + 3) ls (v :: st)) : am_K G X R nL Λ I J k n (pc) ls (.ref a :: st) := by
  intro H locs la hR hS hl
  obtain ⟨r, h1, cell, q1, q2, q3, q4⟩ := am_at_obj hR hs
  obtain ⟨cf, kc, fi, f, e1, e2, e3⟩ := am_slot hF C
  cases Option.some.inj (h1.symm.trans hF.1)
  refine W.getf C.hx C.hb C.ho (C.ht _ hF.2.2) e1 e3 q1 (by rw [q3]; exact fun h => by cases h) (v := v) ?_ rfl rfl hd (kk H locs la hR hS hl)
  rw [e2, q4 _ hF.2.1]
  exact congrArg some hv
theorem k_getI (C : am_Cx G X own cc nL ret tb Q) {a idx ci kf : Nat} {q : vw_C} {x : Int32} (hF : am_F own idx ci kf q) (hs : Λ.1 a = (1, ci)) (hv : ∀ r x y, am_fv (am_ty ci kf) r x y = .int x) (hx : I a kf = x) (hd : decode cc pc = .ok (.getfield idx, 3)) (kk : am_K G X R nL Λ I J k n (pc + 3) ls (.int x :: st)) : am_K G X R nL Λ I J k n (pc) ls (.ref a :: st) := k_get C hF hs (by rw [hv, hx]) hd kk
theorem k_getR (C : am_Cx G X own cc nL ret tb Q) {a b idx ci kf : Nat} {q : vw_C} (hF : am_F own idx ci kf q) (hs : Λ.1 a = (1, ci)) (hv : ∀ r x y, am_fv (am_ty ci kf) r x y = va_rf r) (hx : Λ.2 a kf = some b) (hd : decode cc pc = .ok (.getfield idx, 3)) (kk : am_K G X R nL Λ I J k n (pc + 3) ls (.ref b :: st)) : am_K G X R nL Λ I J k n (pc) ls (.ref a :: st) := k_get C hF hs (by rw [hv, hx]; rfl) hd kk
theorem k_getJ (C : am_Cx G X own cc nL ret tb Q) {a idx ci kf : Nat} {q : vw_C} {x : Int64} (hF : am_F own idx ci kf q) (hs : Λ.1 a = (1, ci)) (hv : ∀ r x y, am_fv (am_ty ci kf) r x y = .long y) (hx : J a kf = x) (hd : decode cc pc = .ok (.getfield idx, 3)) (kk : am_K G X R nL Λ I J k n (pc + 3) ls (.long x :: st)) : am_K G X R nL Λ I J k n (pc) ls (.ref a :: st) := k_get C hF hs (by rw [hv, hx]) hd kk
theorem k_put (C : am_Cx G X own cc nL ret tb Q) {a idx ci kf : Nat} {q : vw_C} {v : Value} {Λ' : am_L} {I' : am_I} {J' : am_J} (hF : am_F own idx ci kf q) (hs : Λ.1 a = (1, ci)) (hfin : (q.2.1 kf).2.2.2 = false) (hn : narrow (am_ty ci kf) v = v) (hfit : fits (am_ty ci kf) v = true)
    (hs' : Λ'.1 = Λ.1) (hr : ∀ b, b ≠ a → Λ'.2 b = Λ.2 b) (hi : ∀ b, b ≠ a → I' b = I b) (hj : ∀ b, b ≠ a → J' b = J b) (hv : ∀ j, am_fv (am_ty ci j) (Λ'.2 a j) (I' a j) (J' a j) = if j = kf then v else am_fv (am_ty ci j) (Λ.2 a j) (I a j) (J a j))
    (hd : decode cc pc = .ok (.putfield idx, 3)) (kk : am_K G X R nL Λ' I' J' k n (pc + 3) ls (st)) : am_K G X R nL Λ I J k n (pc) ls (v :: .ref a :: st) := by
  intro H locs la hR hS hl
  obtain ⟨r, h1, cell, q1, q2, q3, q4⟩ := am_at_obj hR hs
  obtain ⟨cf, kc, fi, f, e1, e2, e3⟩ := am_slot hF C
  cases Option.some.inj (h1.symm.trans hF.1)
  obtain ⟨g1, g2, g3⟩ := (am_cfa ci (am_ci h1)) q h1
  have hap := va_apart (own := own) (C := q.1) (T := q.2.1) (N := q.2.2) C.ht g1 (am_ty ci) g2 g3 C.hK h1
  obtain ⟨hSS, hfc, kC, hkC, hkind⟩ := C.hK.1 ci _ h1
  have hlay := C.ht _ (g1 _ (u_in_lay hF.2.1))
  unfold u_lay at hlay
  rw [if_neg (by rw [hfin]; decide)] at hlay
  have h6 := u_store hfc hkC hkind hlay e1 (g2 _ hF.2.1) hn hfit
  refine W.putK C.hx C.hb (f := f) ⟨C.ho, C.ht _ hF.2.2, ⟨_, _, _, e1⟩, e3⟩ (by rw [q2]; exact h6) q1 q3 (by rw [e2]; exact k2_hasslot (q4 _ hF.2.1)) rfl rfl hd fun H' e4 e5 e6 => ?_
  rw [e2] at e4 ⊢
  refine kk H' _ la (am_at_put hR hs' hr hi hj ?_ e5 e6) (hS.put e5 e6 (hR.2.1 a (by rw [hs]; exact Nat.one_ne_zero)).1) hl
  unfold am_at
  rw [hs', hs]
  refine ⟨q, h1, t_OB.to (V := updV (fun k => am_fv (am_ty ci k) (Λ.2 a k) (I a k) (J a k)) kf v) ⟨_, e4, q2, q3, t_set q4 hap hF.2.1 v⟩ (fun j _ => ?_)⟩
  rw [hv j]
  simp [updV]
theorem k_putI (C : am_Cx G X own cc nL ret tb Q) {a idx ci kf : Nat} {q : vw_C} {x : Int32} (hF : am_F own idx ci kf q) (hs : Λ.1 a = (1, ci)) (hfin : (q.2.1 kf).2.2.2 = false) (hty : am_ty ci kf = .int) (hd : decode cc pc = .ok (.putfield idx, 3)) (kk : am_K G X R nL Λ (am_up I a kf x) J k n (pc + 3) ls (st)) : am_K G X R nL Λ I J k n (pc) ls (.int x :: .ref a :: st) := by
  refine k_put C hF hs hfin (by rw [hty]; rfl) (by rw [hty]; rfl) rfl (fun _ _ => rfl) (fun b hb => am_up_ne hb) (fun _ _ => rfl) (fun j => ?_) hd kk
  by_cases e : j = kf
  · rw [if_pos e, e, hty]
    simp [am_fv, am_up]
  · rw [if_neg e]
    simp [am_up, e]
theorem k_putZ (C : am_Cx G X own cc nL ret tb Q) {a idx ci kf : Nat} {q : vw_C} {x : Int32} (hF : am_F own idx ci kf q) (hs : Λ.1 a = (1, ci)) (hfin : (q.2.1 kf).2.2.2 = false) (hty : am_ty ci kf = .boolean) (hx : x = 0 ∨ x = 1) (hd : decode cc pc = .ok (.putfield idx, 3)) (kk : am_K G X R nL Λ (am_up I a kf x) J k n (pc + 3) ls (st)) : am_K G X R nL Λ I J k n (pc) ls (.int x :: .ref a :: st) := by
  refine k_put C hF hs hfin (by rw [hty]; rcases hx with rfl | rfl <;> rfl) (by rw [hty]; rcases hx with rfl | rfl <;> rfl) rfl (fun _ _ => rfl) (fun b hb => am_up_ne hb) (fun _ _ => rfl) (fun j => ?_) hd kk
  by_cases e : j = kf
  · rw [if_pos e, e, hty]
    simp [am_fv, am_up]
  · rw [if_neg e]
    simp [am_up, e]
theorem k_putJ (C : am_Cx G X own cc nL ret tb Q) {a idx ci kf : Nat} {q : vw_C} {x : Int64} (hF : am_F own idx ci kf q) (hs : Λ.1 a = (1, ci)) (hfin : (q.2.1 kf).2.2.2 = false) (hty : am_ty ci kf = .long) (hd : decode cc pc = .ok (.putfield idx, 3)) (kk : am_K G X R nL Λ I (am_ul J a kf x) k n (pc + 3) ls (st)) : am_K G X R nL Λ I J k n (pc) ls (.long x :: .ref a :: st) := by
  refine k_put C hF hs hfin (by rw [hty]; rfl) (by rw [hty]; rfl) rfl (fun _ _ => rfl) (fun _ _ => rfl) (fun b hb => am_ul_ne hb) (fun j => ?_) hd kk
  by_cases e : j = kf
  · rw [if_pos e, e, hty]
    simp [am_fv, am_ul]
  · rw [if_neg e]
    simp [am_ul, e]
theorem k_iald (C : am_Cx G X own cc nL ret tb Q) {a m j : Nat} {i x : Int32} (hs : Λ.1 a = (2, m)) (hi : i = nI j) (hj : j < m) (hm : m < 2 ^ 31) (hx : I a j = x) (hd : decode cc pc = .ok (.iaload, 1)) (kk : am_K G X R nL Λ I J k n (pc + 1) ls (.int x :: st)) : am_K G X R nL Λ I J k n (pc) ls (.int i :: .ref a :: st) := by
  intro H locs la hR hS hl
  have hcell := am_at_i hR hs
  have hin : vp_in i m := by rw [hi]; exact vp_in_nI hj hm
  have e : i.toNatClampNeg = j := by rw [hi]; exact nI_clamp (by omega)
  exact W.iald (v := .int x) C.hx C.hb hcell ((C.hK.2 0 _ rfl).1 m (fun j => .int (I a j))) (fun q => by cases q) (by show ¬ (i < 0 ∨ (arrV _ _ _).slots.size ≤ _); rw [arrV_size]; exact hin) (by show (arrV _ _ _).slots[_]? = _; rw [e, arrV_read _ _ hj, hx]) rfl rfl hd (kk H locs la hR hS hl)
theorem k_bald (C : am_Cx G X own cc nL ret tb Q) {a m j : Nat} {i x : Int32} (hs : Λ.1 a = (3, m)) (hi : i = nI j) (hj : j < m) (hm : m < 2 ^ 31) (hx : I a j = x) (hd : decode cc pc = .ok (.baload, 1)) (kk : am_K G X R nL Λ I J k n (pc + 1) ls (.int x :: st)) : am_K G X R nL Λ I J k n (pc) ls (.int i :: .ref a :: st) := by
  intro H locs la hR hS hl
  have hcell := am_at_b hR hs
  have hin : vp_in i m := by rw [hi]; exact vp_in_nI hj hm
  have e : i.toNatClampNeg = j := by rw [hi]; exact nI_clamp (by omega)
  exact W.bald (v := .int x) C.hx C.hb hcell ((C.hK.2 1 _ rfl).1 m (fun j => .int (I a j))) (fun q => by cases q) (by show ¬ (i < 0 ∨ (arrV _ _ _).slots.size ≤ _); rw [arrV_size]; exact hin) (by show (arrV _ _ _).slots[_]? = _; rw [e, arrV_read _ _ hj, hx]) rfl rfl hd (kk H locs la hR hS hl)
theorem k_zald (C : am_Cx G X own cc nL ret tb Q) {a m j : Nat} {i x : Int32} (hs : Λ.1 a = (4, m)) (hi : i = nI j) (hj : j < m) (hm : m < 2 ^ 31) (hx : I a j = x) (hd : decode cc pc = .ok (.baload, 1)) (kk : am_K G X R nL Λ I J k n (pc + 1) ls (.int x :: st)) : am_K G X R nL Λ I J k n (pc) ls (.int i :: .ref a :: st) := by
  intro H locs la hR hS hl
  have hcell := am_at_z hR hs
  have hin : vp_in i m := by rw [hi]; exact vp_in_nI hj hm
  have e : i.toNatClampNeg = j := by rw [hi]; exact nI_clamp (by omega)
  exact W.zald (v := .int x) C.hx C.hb hcell ((C.hK.2 2 _ rfl).1 m (fun j => .int (I a j))) (fun q => by cases q) (by show ¬ (i < 0 ∨ (arrV _ _ _).slots.size ≤ _); rw [arrV_size]; exact hin) (by show (arrV _ _ _).slots[_]? = _; rw [e, arrV_read _ _ hj, hx]) rfl rfl hd (kk H locs la hR hS hl)
theorem k_aald (C : am_Cx G X own cc nL ret tb Q) {a m j b : Nat} {i : Int32} (hs : Λ.1 a = (6, m)) (hi : i = nI j) (hj : j < m) (hm : m < 2 ^ 31) (hx : Λ.2 a j = some b) (hd : decode cc pc = .ok (.aaload, 1)) (kk : am_K G X R nL Λ I J k n (pc + 1) ls (.ref b :: st)) : am_K G X R nL Λ I J k n (pc) ls (.int i :: .ref a :: st) := by
  intro H locs la hR hS hl
  have hcell := am_at_q hR hs
  have hin : vp_in i m := by rw [hi]; exact vp_in_nI hj hm
  have e : i.toNatClampNeg = j := by rw [hi]; exact nI_clamp (by omega)
  exact W.aald (v := .ref b) (ty := .object RX0) C.hx C.hb hcell ((C.hK.2 4 _ rfl).1 m (fun j => va_rf (Λ.2 a j))) rfl (fun q => by cases q) (by show ¬ (i < 0 ∨ (arrV _ _ _).slots.size ≤ _); rw [arrV_size]; exact hin) (by show (arrV _ _ _).slots[_]? = _; rw [e, arrV_read _ _ hj, hx]; rfl) rfl rfl hd (kk H locs la hR hS hl)
theorem k_iast (C : am_Cx G X own cc nL ret tb Q) {a m j : Nat} {i x : Int32} (hs : Λ.1 a = (2, m)) (hi : i = nI j) (hj : j < m) (hm : m < 2 ^ 31) (hd : decode cc pc = .ok (.iastore, 1)) (kk : am_K G X R nL Λ (am_up I a j x) J k n (pc + 1) ls (st)) : am_K G X R nL Λ I J k n (pc) ls (.int x :: .int i :: .ref a :: st) := by
  intro H locs la hR hS hl
  have hcell := am_at_i hR hs
  have hin : vp_in i m := by rw [hi]; exact vp_in_nI hj hm
  have e : i.toNatClampNeg = j := by rw [hi]; exact nI_clamp (by omega)
  refine W.iast C.hx C.hb hcell ((C.hK.2 0 _ rfl).1 m (fun j => .int (I a j))) (fun q => by cases q) (by show ¬ (i < 0 ∨ (arrV _ _ _).slots.size ≤ _); rw [arrV_size]; exact hin) rfl rfl hd fun H1 e4 e5 e6 => ?_
  refine kk H1 _ la (am_at_put hR rfl (fun _ _ => rfl) (fun b hb => am_up_ne hb) (fun _ _ => rfl) ?_ e5 e6) (hS.put e5 e6 (hR.2.1 a (by rw [hs]; exact Nat.succ_ne_zero _)).1) hl
  unfold am_at
  rw [hs]
  show H1[a]? = some (vp_cell _ _)
  rw [e4, e, am_up_row, vp_cell_i, vp_cell_i, arrV_store]
  congr 2
  funext q
  by_cases hq : q = j
  · subst hq
    simp only [updV, upd, if_pos]
    all_goals rfl
  · simp [updV, upd, hq]
theorem k_bast (C : am_Cx G X own cc nL ret tb Q) {a m j : Nat} {i x : Int32} (hs : Λ.1 a = (3, m)) (hi : i = nI j) (hj : j < m) (hm : m < 2 ^ 31) (hd : decode cc pc = .ok (.bastore, 1)) (kk : am_K G X R nL Λ (am_up I a j (vp_nar .byte x)) J k n (pc + 1) ls (st)) : am_K G X R nL Λ I J k n (pc) ls (.int x :: .int i :: .ref a :: st) := by
  intro H locs la hR hS hl
  have hcell := am_at_b hR hs
  have hin : vp_in i m := by rw [hi]; exact vp_in_nI hj hm
  have e : i.toNatClampNeg = j := by rw [hi]; exact nI_clamp (by omega)
  refine W.bast C.hx C.hb hcell ((C.hK.2 1 _ rfl).1 m (fun j => .int (I a j))) (fun q => by cases q) (by show ¬ (i < 0 ∨ (arrV _ _ _).slots.size ≤ _); rw [arrV_size]; exact hin) rfl rfl hd fun H1 e4 e5 e6 => ?_
  refine kk H1 _ la (am_at_put hR rfl (fun _ _ => rfl) (fun b hb => am_up_ne hb) (fun _ _ => rfl) ?_ e5 e6) (hS.put e5 e6 (hR.2.1 a (by rw [hs]; exact Nat.succ_ne_zero _)).1) hl
  unfold am_at
  rw [hs]
  show H1[a]? = some (vp_cell _ _)
  rw [e4, e, am_up_row, vp_cell_i, vp_cell_i, arrV_store]
  congr 2
  funext q
  by_cases hq : q = j
  · subst hq
    simp only [updV, upd, if_pos]
    all_goals rfl
  · simp [updV, upd, hq]
theorem k_zast (C : am_Cx G X own cc nL ret tb Q) {a m j : Nat} {i x : Int32} (hs : Λ.1 a = (4, m)) (hi : i = nI j) (hj : j < m) (hm : m < 2 ^ 31) (hd : decode cc pc = .ok (.bastore, 1)) (kk : am_K G X R nL Λ (am_up I a j (vp_nar .boolean x)) J k n (pc + 1) ls (st)) : am_K G X R nL Λ I J k n (pc) ls (.int x :: .int i :: .ref a :: st) := by
  intro H locs la hR hS hl
  have hcell := am_at_z hR hs
  have hin : vp_in i m := by rw [hi]; exact vp_in_nI hj hm
  have e : i.toNatClampNeg = j := by rw [hi]; exact nI_clamp (by omega)
  refine W.zast C.hx C.hb hcell ((C.hK.2 2 _ rfl).1 m (fun j => .int (I a j))) (fun q => by cases q) (by show ¬ (i < 0 ∨ (arrV _ _ _).slots.size ≤ _); rw [arrV_size]; exact hin) rfl rfl hd fun H1 e4 e5 e6 => ?_
  refine kk H1 _ la (am_at_put hR rfl (fun _ _ => rfl) (fun b hb => am_up_ne hb) (fun _ _ => rfl) ?_ e5 e6) (hS.put e5 e6 (hR.2.1 a (by rw [hs]; exact Nat.succ_ne_zero _)).1) hl
  unfold am_at
  rw [hs]
  show H1[a]? = some (vp_cell _ _)
  rw [e4, e, am_up_row, vp_cell_i, vp_cell_i, arrV_store]
  congr 2
  funext q
  by_cases hq : q = j
  · subst hq
    simp only [updV, upd, if_pos]
    all_goals rfl
  · simp [updV, upd, hq]
end AM
