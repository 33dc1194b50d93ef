/-- the private methods of a builder's superclass, taken by the builder -/
def sb_sels : List Cond := [Cond.selects RJ4 yJ5_ensureCapacityInternal_d00df yJ5_ensureCapacityInternal_d00df, Cond.selects RJ4 yJ5_newCapacity_0f7a4 yJ5_newCapacity_0f7a4, Cond.selects RJ4 yJ5_putStringAt_47b60 yJ5_putStringAt_47b60, Cond.selects RJ4 yJ5_inflateIfNeededFor_a7421 yJ5_inflateIfNeededFor_a7421]
def am_tbl : List Cond := lw_tbl.filter goodWord ++ sb_sels
theorem am_wf {w : Cond} (h : w ∈ lw_tbl) (g : goodWord w = true) : w ∈ am_tbl := List.mem_append_left _ (List.mem_filter.mpr ⟨h, g⟩)
theorem am_wd {w : Cond} (i : Nat) (h : lw_tbl[i]? = some w) (g : goodWord w = true) : w ∈ am_tbl := am_wf (List.mem_of_getElem? h) g
theorem am_sb {w : Cond} (h : w ∈ sb_sels) : w ∈ am_tbl := List.mem_append_right _ h
theorem sb_gw : ∀ w ∈ sb_sels, goodWord w = true := by decide +kernel
theorem am_gw : ∀ w ∈ am_tbl, goodWord w = true := fun w h => (List.mem_append.mp h).elim (fun z => (List.mem_filter.mp z).2) (sb_gw w)
/-- a field by a pool index of a class: own, index, class number, field number -/
def am_F (own : String) (idx ci k : Nat) (q : vw_C) : Prop := vwCl[ci]? = some q ∧ k < q.2.2 ∧ Cond.fieldLink own idx (q.2.1 k).1 (q.2.1 k).2.1 (q.2.1 k).2.2.1 ∈ am_tbl
/-- a method by a pool index: an instance method found by its receiver; a static one; a constructor -/
def am_SV (own : String) (idx : Nat) (y : MethodName) (C : String) (n : Nat) : Prop := Cond.methodLink own idx y ∈ am_tbl ∧ Cond.instanceMethod y ∈ am_tbl ∧ Cond.selects C y y ∈ am_tbl ∧ Cond.initialized y.cls ∈ am_tbl ∧ y.cls ≠ "java/lang/invoke/MethodHandle" ∧ y.cls ≠ "java/lang/invoke/VarHandle" ∧ (parseMethodDescriptor y.desc).map (fun d => d.parameters.length) = some n
def am_SS (own : String) (idx : Nat) (y : MethodName) (n : Nat) : Prop := Cond.methodLink own idx y ∈ am_tbl ∧ Cond.static y ∈ am_tbl ∧ Cond.initialized y.cls ∈ am_tbl ∧ y.cls ≠ "java/lang/invoke/MethodHandle" ∧ y.cls ≠ "java/lang/invoke/VarHandle" ∧ (parseMethodDescriptor y.desc).map (fun d => d.parameters.length) = some n
def am_SI (own : String) (idx : Nat) (y : MethodName) (n : Nat) : Prop := Cond.methodLink own idx y ∈ am_tbl ∧ Cond.instanceMethod y ∈ am_tbl ∧ Cond.initialized y.cls ∈ am_tbl ∧ y.name = "<init>" ∧ y.cls ≠ "java/lang/invoke/MethodHandle" ∧ y.cls ≠ "java/lang/invoke/VarHandle" ∧ (parseMethodDescriptor y.desc).map (fun d => d.parameters.length) = some n
