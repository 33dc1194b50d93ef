/-! ===== the model: load ===== -/
def MLf (y : Nat) (I I' : am_I) : Prop := (∀ k : Nat, (k < 8 ∨ k = 11 ∨ k = 16 ∨ 18 ≤ k) → I' y k = I y k) ∧ ∀ b : Nat, b ≠ y → b ≠ y + 2 → I' b = I b
theorem md_zero_B : RowB (fun _ => nI 0) := ⟨⟨by decide, by decide, by decide, by decide⟩, by decide, by decide, by decide, by decide⟩
theorem md_load_no {I I6 I7 : am_I} {y n ct x : Nat} {tb : Nat → Nat} {err : Int32} {r : Nat → Int32} {hs : Nat → Nat → Int32} {kp : Nat → Bool} {sn : Nat → Nat → Int32} {w : Nat × (Nat → Int32)} (hR : ModRel I y tb n err r ct hs kp sn w) (hL : MLf y I I6) (h8 : I6 y 8 = nI 0) (h9 : I6 y 9 = nI x) (h7 : I7 = am_up I6 y 10 (nI 1)) : ModRel I7 y tb 0 (nI x) r ct hs kp sn w ∧ MFr y I I7 := by
  obtain ⟨b1, b2, b3, b4, b5, b6⟩ := hR
  have hy : ∀ k : Nat, (k < 8 ∨ k = 11 ∨ k = 16 ∨ 18 ≤ k) → I7 y k = I y k := fun k hk => by rw [h7, am_up_n2 (by omega)]; exact hL.1 k hk
  have ho : ∀ b : Nat, b ≠ y → b ≠ y + 2 → I7 b = I b := fun b h1 h2 => by rw [h7, am_up_ne h1]; exact hL.2 b h1 h2
  refine ⟨⟨⟨by rw [h7, am_up_n2 (by omega)]; exact h8, by decide, fun j hj => absurd hj (Nat.not_lt_zero j)⟩, by rw [h7, am_up_n2 (by omega)]; exact h9, MR_ne b3 (ho _ (by omega) (by omega)), ?_, ?_, ?_⟩, fun b hb => ho b (by omega) (by omega)⟩
  · unfold MRow; rw [hy 6 (by omega), ho (y + 4) (by omega) (by omega)]; exact b4
  · unfold MRow; rw [ho (y + 6) (by omega) (by omega), ho (y + 5) (by omega) (by omega)]; exact b5
  · unfold TxtAt; rw [hy 19 (by omega), ho (y + 9) (by omega) (by omega)]; exact b6
theorem md_load_ok {I I6 I7 I8 I9 : am_I} {y n ct : Nat} {tb : Nat → Nat} {err : Int32} {r r' : Nat → Int32} {hs : Nat → Nat → Int32} {kp : Nat → Bool} {sn : Nat → Nat → Int32} {w : Nat × (Nat → Int32)} (hR : ModRel I y tb n err r ct hs kp sn w) (hL : MLf y I I6) (h8 : I6 y 8 = nI 0) (h9 : I6 y 9 = -1) (hm : MRow I6 (y + 2) 0 r')
    (hA : ∀ m : Nat, m < 220 → I7 (y + 1) (0 + m) = I6 (y + 2) (0 + m)) (hO : ∀ A K : Nat, ¬ (A = y + 1 ∧ 0 ≤ K ∧ K < 0 + 220) → I7 A K = I6 A K) (hI8 : I8 = am_up I7 y 6 (nI 0)) (hz : ∀ j : Nat, j < 2 → I9 (y + 6) j = nI 0) (g9 : am_f1 (y + 6) I8 I9) : ModRel I9 y tb 0 (-1) r' 0 hs (fun _ => false) sn w ∧ MFr y I I9 ∧ I9 y 10 = I6 y 10 := by
  obtain ⟨b1, b2, b3, b4, b5, b6⟩ := hR
  have hy0 : ∀ k : Nat, k ≠ 6 → I9 y k = I6 y k := fun k hk => by rw [g9 y (by omega), hI8, am_up_n2 (fun z => hk z.2), hO y k (by omega)]
  have ho0 : ∀ b : Nat, b ≠ y → b ≠ y + 1 → b ≠ y + 6 → I9 b = I6 b := fun b h1 h2 h3 => by
    rw [g9 b h3, hI8, am_up_ne h1]
    funext K
    exact hO b K (by omega)
  refine ⟨⟨⟨by rw [hy0 8 (by decide)]; exact h8, by decide, fun j hj => absurd hj (Nat.not_lt_zero j)⟩, by rw [hy0 9 (by decide)]; exact h9, fun k hk => ?_, ⟨by rw [g9 y (by omega), hI8, am_up_eq], by decide, fun s hs2 => absurd hs2 (Nat.not_lt_zero s)⟩, fun j hj => ⟨by rw [hz j hj]; exact am_bf (fun z => by cases z), fun z => by cases z⟩, ?_⟩, fun b hb => ?_, hy0 10 (by decide)⟩
  · rw [g9 (y + 1) (by omega), hI8, am_up_ne (by omega), hA k hk]
    exact hm k hk
  · unfold TxtAt; rw [hy0 19 (by decide), ho0 (y + 9) (by omega) (by omega) (by omega), hL.1 19 (by omega), hL.2 (y + 9) (by omega) (by omega)]; exact b6
  · rw [ho0 b (by omega) (by omega) (by omega)]; exact hL.2 b (by omega) (by omega)
set_option maxHeartbeats 4000000 in
set_option maxRecDepth 100000 in
theorem ct_X6_load {G : am_G} {Λ : am_L} {I : am_I} {J : am_J} {y n ct : Nat} {tb : Nat → Nat} {err : Int32} {r : Nat → Int32} {hs : Nat → Nat → Int32} {kp : Nat → Bool} {sn : Nat → Nat → Int32} {w : Nat × (Nat → Int32)}  (hx : ModLay Λ y) (hR : ModRel I y tb n err r ct hs kp sn w) : am_Ct G yX6_load cX6_load 2 (some .int) { frames := 7, cells := 0, slots := 0, locals := 149 } [.ref y] Λ I J (am_gj Λ (fun v I' J' => (∃ b : Int32, v = some (.int b)) ∧ MFr y I I' ∧ JFr y J J' ∧ (∀ r' : Nat → Int32, sp_parse tb n = .ok r' → I' y 10 = nI 0 ∧ v = some (.int (nI (sp_nc r'))) ∧ ModRel I' y tb 0 (-1) r' 0 hs (fun _ => false) sn w) ∧ (∀ x : Nat, sp_parse tb n = .error x → I' y 10 = nI 1 ∧ x ≤ 700 ∧ ModRel I' y tb 0 (nI x) r ct hs kp sn w))) am_never := by
  refine am_ct_of (own := RX6) rfl (by decide) (Nat.le_of_ble_eq_true rfl) (fun X C => ?_)
  change am_K G X { frames := 7, cells := 0, slots := 0, locals := 149 } 2 Λ I J 0 0 0 [(0, .ref y)] []
  obtain ⟨h6a, h6b, h6c⟩ := MM_h hR
  have hm := MM_r hR
  have ht := MM_x hR
  have hn7 := ht.2.1
  refine k_aload_n C (f := 0) (i := 0) (p := 0) rfl rfl dX6_load_0 ?_
  refine k_iconst C ic_0 dX6_load_1 ?_
  refine k_putI C f_X6_60 (L6_s (by assumption)) rfl rfl dX6_load_2 ?_
  obtain ⟨I1, hI1⟩ : ∃ z : am_I, z = am_up I y 10 (nI 0) := ⟨_, rfl⟩
  rw [← hI1]
  refine k_iconst C ic_0 dX6_load_5 ?_
  refine k_istore_n C (f := 1) (i := 1) (lv := [(1, _), (0, _)]) rfl (Nat.le_of_ble_eq_true rfl) rfl dX6_load_6 ?_
  have loop7 : ∀ (f : Nat) (k : Nat) (I2 : am_I), (k ≤ 220) → (∀ m : Nat, m < k → I2 (y + 2) m = nI 0) → (am_f1 (y + 2) I1 I2) → (220 - k) < f → am_K G X { frames := 7, cells := 0, slots := 0, locals := 149 } 2 Λ I2 J 0 0 7 [(0, .ref y), (1, .int (nI k))] [] := by
    intro f
    induction f with
    | zero => intro k I2 hk hz g2 hf; exact absurd hf (Nat.not_lt_zero _)
    | succ f ih7 =>
      intro k I2 hk hz g2 hf
      refine k_iload_n C (f := 1) (i := 1) (p := 1) rfl rfl dX6_load_7 ?_
      refine k_sipush C sc_220 dX6_load_8 ?_
      first
      | refine k_icmpN_ge C (tgt := 27) (by omega) (by omega) (by decide) dX6_load_11 (fun hc11 => ?_) (fun hc11 => ?_)
      | refine k_icmp_ge C (tgt := 27) (by decide) dX6_load_11 (fun hc11 => ?_) (fun hc11 => ?_)
      · skip
        refine k_aload_n C (f := 0) (i := 0) (p := 0) rfl rfl dX6_load_27 ?_
        refine k_iconst C ic_0 dX6_load_28 ?_
        refine k_putI C f_X6_151 (L6_s (by assumption)) rfl rfl dX6_load_29 ?_
        refine k_aload_n C (f := 0) (i := 0) (p := 0) rfl rfl dX6_load_32 ?_
        refine k_iconst C ic_0 dX6_load_33 ?_
        refine k_putZ C f_X6_184 (L6_s (by assumption)) rfl rfl (by first | exact Or.inl rfl | exact Or.inr rfl | exact am_b01) dX6_load_34 ?_
        refine k_aload_n C (f := 0) (i := 0) (p := 0) rfl rfl dX6_load_37 ?_
        refine k_iconst C ic_m1 dX6_load_38 ?_
        refine k_putI C f_X6_32 (L6_s (by assumption)) rfl rfl dX6_load_39 ?_
        obtain ⟨I3, hI3⟩ : ∃ z : am_I, z = am_up (am_up (am_up I2 y 12 (nI 0)) y 17 (nI 0)) y 9 (-1) := ⟨_, rfl⟩
        rw [← hI3]
        have hy3 : ∀ j : Nat, j ≠ 9 → j ≠ 10 → j ≠ 12 → j ≠ 17 → I3 y j = I y j := fun j h9 h10 h12 h17 => by rw [hI3, am_up_n2 (fun z => h9 z.2), am_up_n2 (fun z => h17 z.2), am_up_n2 (fun z => h12 z.2), g2 y (by omega), hI1, am_up_n2 (fun z => h10 z.2)]
        have ho3 : ∀ b : Nat, b ≠ y → b ≠ y + 2 → I3 b = I b := fun b h1 h2 => by rw [hI3, am_up_ne h1, am_up_ne h1, am_up_ne h1, g2 b h2, hI1, am_up_ne h1]
        have h310 : I3 y 10 = nI 0 := by rw [hI3, am_up_n2 (by omega), am_up_n2 (by omega), am_up_n2 (by omega), g2 y (by omega), hI1, am_up_eq]
        have h312 : I3 y 12 = nI 0 := by rw [hI3, am_up_n2 (by omega), am_up_n2 (by omega), am_up_eq]
        have h317 : I3 y 17 = nI 0 := by rw [hI3, am_up_n2 (by omega), am_up_eq]
        have h39 : I3 y 9 = -1 := by rw [hI3, am_up_eq]
        have hz3 : MRow I3 (y + 2) 0 (fun _ => nI 0) := fun m hm => by rw [hI3, am_up_ne (by omega), am_up_ne (by omega), am_up_ne (by omega), Nat.zero_add]; exact hz m (by omega)
        have ht3 : MTxt I3 y tb n := by
          unfold MTxt
          rw [hy3 8 (by decide) (by decide) (by decide) (by decide), ho3 (y + 7) (by omega) (by omega)]
          exact MM_x hR
        clear hI3
        refine k_aload_n C (f := 0) (i := 0) (p := 0) rfl rfl dX6_load_42 ?_
        refine k_callVj C s_X6_188 h_X6_next (L6_s (by assumption)) rfl (ct_X6_next (k := 0) hx ht3 (Nat.zero_le _) h312) rfl rfl (Nat.le_of_ble_eq_true rfl) ⟨Nat.le_of_ble_eq_true rfl, Nat.le_of_ble_eq_true rfl⟩ ⟨Nat.le_of_ble_eq_true rfl, Nat.le_of_ble_eq_true rfl⟩ ⟨rfl, rfl⟩ dX6_load_43 ?_
        intro v I4 J4 hv
        obtain ⟨rfl, qT, T4, GJ4⟩ := hv
        refine k_aload_n C (f := 0) (i := 0) (p := 0) rfl rfl dX6_load_46 ?_
        refine k_callVj C s_X6_232 h_X6_readText (L6_s (by assumption)) rfl (ct_X6_readText hx (T4.mp.txt ht3) (s0 := (sp_tok tb n 0, fun _ => nI 0)) ⟨(T4 y 17 (by omega)).trans h317, (T4 y 9 (by omega)).trans h39, qT, MR_ne hz3 (funext (fun K => T4 _ K (by omega))), md_zero_B, 0, rfl, by decide⟩) rfl rfl (Nat.le_of_ble_eq_true rfl) ⟨Nat.le_of_ble_eq_true rfl, Nat.le_of_ble_eq_true rfl⟩ ⟨Nat.le_of_ble_eq_true rfl, Nat.le_of_ble_eq_true rfl⟩ ⟨rfl, rfl⟩ dX6_load_47 ?_
        intro v I5 J5 hv
        obtain ⟨rfl, hP5, F5, GJ5⟩ := hv
        have hLf : ∀ j : Nat, (j < 8 ∨ j = 11 ∨ j = 16 ∨ 18 ≤ j) → I5 y j = I y j := fun j hj => (F5.1 j (by omega)).trans ((T4 y j (by omega)).trans (hy3 j (by omega) (by omega) (by omega) (by omega)))
        have hLo : ∀ b : Nat, b ≠ y → b ≠ y + 2 → I5 b = I b := fun b h1 h2 => (F5.2 b h1 h2).trans ((funext (fun K => T4 b K (by omega))).trans (ho3 b h1 h2))
        have h510 : I5 y 10 = nI 0 := (F5.1 10 (by omega)).trans ((T4 y 10 (by omega)).trans h310)
        have hEq := md_read_eq (tb := tb) (n := n)
        obtain ⟨E, hE⟩ : ∃ z : Except Nat sp_S, z = md_read tb n (.ok (sp_tok tb n 0, fun _ => nI 0)) := ⟨_, rfl⟩
        rw [← hE] at hP5 hEq
        refine k_aload_n C (f := 0) (i := 0) (p := 0) rfl rfl dX6_load_50 ?_
        refine k_iconst C ic_0 dX6_load_51 ?_
        refine k_putI C f_X6_144 (L6_s (by assumption)) rfl rfl dX6_load_52 ?_
        obtain ⟨I6, hI6⟩ : ∃ z : am_I, z = am_up I5 y 8 (nI 0) := ⟨_, rfl⟩
        rw [← hI6]
        have hL6 : MLf y I I6 := ⟨fun j hj => by rw [hI6, am_up_n2 (by omega)]; exact hLf j hj, fun b h1 h2 => by rw [hI6, am_up_ne h1]; exact hLo b h1 h2⟩
        have h68 : I6 y 8 = nI 0 := by rw [hI6, am_up_eq]
        have h610 : I6 y 10 = nI 0 := by rw [hI6, am_up_n2 (by omega)]; exact h510
        have h617 : I6 y 17 = am_b (¬ sp_ok E = true) := by rw [hI6, am_up_n2 (by omega)]; exact MP_17 hP5
        refine k_aload_n C (f := 0) (i := 0) (p := 0) rfl rfl dX6_load_55 ?_
        refine k_getI C f_X6_184 (L6_s (by assumption)) (fun _ _ _ => rfl) (h617) dX6_load_56 ?_
        refine k_ifb_eq C (tgt := 68) (by decide) dX6_load_59 (fun hc59 => ?_) (fun hc59 => ?_)
        · skip
          obtain ⟨s, hs5⟩ := sp_ok_iff.mp (Decidable.byContradiction hc59)
          have hP6 := hP5
          rw [hs5] at hP6 hEq
          obtain ⟨p17, p9, pT, pm, pB, pL⟩ := hP6
          have hm6 : MRow I6 (y + 2) 0 s.2 := by rw [hI6]; exact MR_ne pm (am_up_ne (by omega))
          have h69 : I6 y 9 = -1 := by rw [hI6, am_up_n2 (by omega)]; exact p9
          refine k_aload_n C (f := 0) (i := 0) (p := 0) rfl rfl dX6_load_68 ?_
          refine k_getR C f_X6_13 (L6_s (by assumption)) (fun _ _ _ => rfl) (L6_1 (by assumption)) dX6_load_69 ?_
          refine k_iconst C ic_0 dX6_load_72 ?_
          refine k_aload_n C (f := 0) (i := 0) (p := 0) rfl rfl dX6_load_73 ?_
          refine k_getR C f_X6_7 (L6_s (by assumption)) (fun _ _ _ => rfl) (L6_0 (by assumption)) dX6_load_74 ?_
          refine k_iconst C ic_0 dX6_load_77 ?_
          refine k_callSg C s_X6_63 h_X6_layRow (ct_X6_layRow (A6_1 hx) (A6_0 hx) (by omega) (by omega) (by decide) (Or.inl (by omega))) rfl rfl (Nat.le_of_ble_eq_true rfl) ⟨Nat.le_of_ble_eq_true rfl, Nat.le_of_ble_eq_true rfl⟩ ⟨Nat.le_of_ble_eq_true rfl, Nat.le_of_ble_eq_true rfl⟩ ⟨rfl, rfl⟩ dX6_load_78 ?_
          intro v I7 hv
          obtain ⟨rfl, hA, hO⟩ := hv
          refine k_aload_n C (f := 0) (i := 0) (p := 0) rfl rfl dX6_load_81 ?_
          refine k_iconst C ic_0 dX6_load_82 ?_
          refine k_putI C f_X6_235 (L6_s (by assumption)) rfl rfl dX6_load_83 ?_
          obtain ⟨I8, hI8⟩ : ∃ z : am_I, z = am_up I7 y 6 (nI 0) := ⟨_, rfl⟩
          rw [← hI8]
          refine k_iconst C ic_0 dX6_load_86 ?_
          refine k_istore_n C (f := 1) (i := 1) (lv := [(1, _), (0, _)]) rfl (Nat.le_of_ble_eq_true rfl) rfl dX6_load_87 ?_
          have loop88 : ∀ (f : Nat) (k2 : Nat) (I9 : am_I), (k2 ≤ 2) → (∀ m : Nat, m < k2 → I9 (y + 6) m = nI 0) → (am_f1 (y + 6) I8 I9) → (2 - k2) < f → am_K G X { frames := 7, cells := 0, slots := 0, locals := 149 } 2 Λ I9 J5 0 0 88 [(0, .ref y), (1, .int (nI k2))] [] := by
            intro f
            induction f with
            | zero => intro k2 I9 hk2 hz9 g9 hf; exact absurd hf (Nat.not_lt_zero _)
            | succ f ih88 =>
              intro k2 I9 hk2 hz9 g9 hf
              refine k_iload_n C (f := 1) (i := 1) (p := 1) rfl rfl dX6_load_88 ?_
              refine k_iconst C ic_2 dX6_load_89 ?_
              first
              | refine k_icmpN_ge C (tgt := 106) (by omega) (by omega) (by decide) dX6_load_90 (fun hc90 => ?_) (fun hc90 => ?_)
              | refine k_icmp_ge C (tgt := 106) (by decide) dX6_load_90 (fun hc90 => ?_) (fun hc90 => ?_)
              · skip
                obtain ⟨q1, q2, q3⟩ := md_load_ok hR hL6 h68 h69 hm6 hA hO hI8 (fun j hj => hz9 j (by omega)) g9
                refine k_aload_n C (f := 0) (i := 0) (p := 0) rfl rfl dX6_load_106 ?_
                refine k_getR C f_X6_7 (L6_s (by assumption)) (fun _ _ _ => rfl) (L6_0 (by assumption)) dX6_load_107 ?_
                refine k_bipush C bc_6 dX6_load_110 ?_
                refine k_iald C (A6_0 (by assumption)) (by first | rfl | assumption) (by omega) (by decide) ((MR (MM_r q1) (by decide)).trans pB.1.1) dX6_load_112 ?_
                exact k_iret C (Nat.le_of_ble_eq_true rfl) (Nat.le_of_ble_eq_true rfl) (⟨rfl, ⟨⟨_, rfl⟩, q2, GJ4.tr GJ5, (fun r' z => by
                      rw [← hEq] at z
                      cases z
                      exact ⟨q3.trans h610, rfl, q1⟩), (fun x' z => by rw [← hEq] at z; cases z)⟩⟩) dX6_load_113
              · skip
                refine k_aload_n C (f := 0) (i := 0) (p := 0) rfl rfl dX6_load_93 ?_
                refine k_getR C f_X6_25 (L6_s (by assumption)) (fun _ _ _ => rfl) (L6_5 (by assumption)) dX6_load_94 ?_
                refine k_iload_n C (f := 1) (i := 1) (p := 1) rfl rfl dX6_load_97 ?_
                refine k_iconst C ic_0 dX6_load_98 ?_
                refine k_zast C (A6_5 (by assumption)) (by first | rfl | assumption) (by omega) (by decide) dX6_load_99 ?_
                refine k_iinc C (i := 1) (p := 1) (lv := [(1, _), (0, _)]) (Nat.le_of_ble_eq_true rfl) rfl (by first | exact am_inc1 _ | rfl) rfl dX6_load_100 ?_
                refine k_goto C (tgt := 88) (by decide) dX6_load_103 ?_
                refine k_sub [1, 0] rfl ?_
                exact ih88 (k2 + 1) _ (by omega) (fun m hm => by
                  by_cases e : m = k2
                  · rw [e, am_up_eq]; rfl
                  · rw [am_up_n2 (fun z => e z.2)]; exact hz9 m (by omega)) (fun b hb => (am_up_ne hb).trans (g9 b hb)) (by omega)
          refine k_sub [1, 0] rfl ?_
          exact loop88 3 0 I8 (Nat.zero_le _) (fun m h => absurd h (Nat.not_lt_zero m)) am_f1.rf (by omega)
        · skip
          refine k_aload_n C (f := 0) (i := 0) (p := 0) rfl rfl dX6_load_62 ?_
          refine k_iconst C ic_1 dX6_load_63 ?_
          refine k_callVg C s_X6_147 h_X6_fails (L6_s (by assumption)) rfl (ct_X6_fails hx) rfl rfl (Nat.le_of_ble_eq_true rfl) ⟨Nat.le_of_ble_eq_true rfl, Nat.le_of_ble_eq_true rfl⟩ ⟨Nat.le_of_ble_eq_true rfl, Nat.le_of_ble_eq_true rfl⟩ ⟨rfl, rfl⟩ dX6_load_64 ?_
          intro v I7 hv
          obtain ⟨rfl, hI7⟩ := hv
          exact k_iret C (Nat.le_of_ble_eq_true rfl) (Nat.le_of_ble_eq_true rfl) (⟨rfl, ⟨⟨_, rfl⟩, by
              obtain ⟨x, hx5⟩ := sp_nok (show ¬ sp_ok E = true from hc59)
              have hP6 := hP5
              rw [hx5] at hP6 hEq
              obtain ⟨p17, p9, pn, -⟩ := hP6
              obtain ⟨w1, w2⟩ := md_load_no hR hL6 h68 (show I6 y 9 = nI x by rw [hI6, am_up_n2 (by omega)]; exact p9) hI7
              exact ⟨w2, GJ4.tr GJ5, (fun r' z => by rw [← hEq] at z; cases z), (fun x' z => by
                rw [← hEq] at z
                cases z
                exact ⟨by rw [hI7, am_up_eq], by omega, w1⟩)⟩⟩⟩) dX6_load_67
      · skip
        refine k_aload_n C (f := 0) (i := 0) (p := 0) rfl rfl dX6_load_14 ?_
        refine k_getR C f_X6_13 (L6_s (by assumption)) (fun _ _ _ => rfl) (L6_1 (by assumption)) dX6_load_15 ?_
        refine k_iload_n C (f := 1) (i := 1) (p := 1) rfl rfl dX6_load_18 ?_
        refine k_iconst C ic_0 dX6_load_19 ?_
        refine k_iast C (A6_1 (by assumption)) (by first | rfl | assumption) (by omega) (by decide) dX6_load_20 ?_
        refine k_iinc C (i := 1) (p := 1) (lv := [(1, _), (0, _)]) (Nat.le_of_ble_eq_true rfl) rfl (by first | exact am_inc1 _ | rfl) rfl dX6_load_21 ?_
        refine k_goto C (tgt := 7) (by decide) dX6_load_24 ?_
        refine k_sub [1, 0] rfl ?_
        exact ih7 (k + 1) _ (by omega) (fun m hm => by
          by_cases e : m = k
          · rw [e, am_up_eq]
          · rw [am_up_n2 (fun z => e z.2)]; exact hz m (by omega)) (fun b hb => (am_up_ne hb).trans (g2 b hb)) (by omega)
  refine k_sub [1, 0] rfl ?_
  exact loop7 221 0 I1 (Nat.zero_le _) (fun m h => absurd h (Nat.not_lt_zero m)) am_f1.rf (by omega)
