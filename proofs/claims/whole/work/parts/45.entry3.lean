theorem Rch.mono {E : Nat} {ec em ec' em' : Fn} {i j : Nat} (h : Rch E ec em i j) (he : ∀ k, k < E → ec' k = ec k ∧ em' k = em k) : Rch (E + 1) ec' em' i j := by
  intro g hg
  refine h g (fun a b ha hb hs => hg a b (by omega) (by omega) ?_)
  unfold smE at hs ⊢
  rw [(he a ha).1, (he a ha).2, (he b hb).1, (he b hb).2]
  exact hs
theorem i_as {x : Int32} : x + 1 - 1 = x := Int32.add_sub_cancel x 1
theorem le9s {x : Int32} : (x ≤ 99999) = (¬ 100000 ≤ x) := by
  have h : (99999 < x) = (100000 ≤ x) := lts (by decide)
  rw [← h, igt, Classical.not_not]
set_option maxRecDepth 100000 in
set_option maxHeartbeats 4000000 in
theorem L_write {d E : Nat} {x y : Int32} {n : Nat} {kd ln : Nat → Nat} {iv : Nat → Nat → Nat → Int32} {rv : Nat → Nat → Nat → Nat} {Q : Rt} (hk : FixK kd) (hl : FixL ln) (hr : FixR rv) (hn : 60 ≤ n) (hkn : ∀ a, kd a ≠ 0 → a < n) (hE : iv 1 20 1 = nI E) (hE6 : E < 60) (c1 : 0 ≤ x) (c2 : ¬ 6 ≤ x) (c3 : 0 ≤ y) (c4 : y ≤ 99999) {ec em : Fn} {lst : Nat → Nat} (h7 : CBook E kd (rv 33 21) (iv 3) ec em lst)
    (hc : ∀ R iv', BR (E + 1) (u3 rv 33 21 E n 33 21) (u3 (u3 (u3 (u3 iv 3 n 0 x) 3 n 1 y) 3 n 2 (nI E)) 1 20 1 (nI E + 1)) iv' R → JE E (va_up ec E x) (va_up em E y) E R → Q (some (.inl (nI E))) ((n + 1, u1 kd n 3, ln), iv', u3 rv 33 21 E n)) : MW (d + 4) 1 [.inr 20, .inl x, .inl y] ((n, kd, ln), iv, rv) Q := by
  have c8 : ¬ (60 : Int32) ≤ nI E := nI_ge (show E < 60 by omega) (by decide)
  have hin : vp_in (nI E) 60 := vp_in_nI (by omega) (by decide)
  have hcl : (nI E).toNatClampNeg = E := nI_clamp (by omega)
  have hn0 : ¬ n = 0 := by omega
  have hk2 : FixK (u1 kd n 3) := hk.new hn
  have hr2 : FixR (u3 rv 33 21 E n) := hr.put (Or.inl (by decide))
  simp only [c1, c3, c2, c4, hE, c8, hin, hcl, hn0, e_lI0, e_lR0, e_st0, e_lI1, e_lR1, e_st1, e_lI2, e_lR2, e_st2, e_lI3, e_lR3, e_st3, e_lI4, e_lR4, e_st4, e_lI5, e_lR5, e_st5, e_lI6, e_lR6, e_st6, e_lI7, e_lR7, e_st7, e_lI8, e_lR8, e_st8, e_swn, e_swc, e_sw0, e_sw1, e_sw2, e_sw3, e_sw4, e_sw5, e_sw6, e_sw7, e_sw8, e_sw9, Option.toList_some, Option.toList_none, List.cons_append, List.nil_append, List.length_cons, List.length_nil, Nat.reduceAdd, Nat.reduceLeDiff, Nat.zero_le, Nat.le_refl, true_and, and_true, WP_eq, Nat.reduceSub, if_true, if_false, Nat.reduceEqDiff, not_false_eq_true, i_10, i_01, Int32.reduceLT, Int32.reduceLE, true_or, or_true, ne_eq, fk_2 hk, fk_8 hk, fk_11 hk, fk_20 hk, fk_29 hk, fr_1_20_0 hr, fk_21 hk, fl_21 hl, fk_2 hk2, fk_8 hk2, fk_11 hk2, fk_20 hk2, fk_29 hk2, fk_21 hk2, en_1, c_5, c_9, k1_0, k1_1, k1_10, k1_11, k1_14, k1_15, k1_17, k1_20, k1_21, k1_22, k1_23, k1_26, k1_28, k1_31, k1_32, k1_33, k1_34, k1_37, k1_38, k1_39, k1_4, k1_42, k1_43, k1_46, k1_47, k1_48, k1_49, k1_5, k1_50, k1_53, k1_54, k1_55, k1_56, k1_59, k1_60, k1_61, k1_64, k1_65, k1_66, k1_69, k1_7, k1_70, r_1, s_aastore, s_aload_n, s_bipush, s_dup, s_iadd, s_icmp_ge, s_icmp_le, s_icmp_lt, s_iconst, s_if_lt, s_iload_n, s_istore_n, s_ldc, s_new_3, sg_1_0, sg_1_1, sp_1_1, en_9, k9_0, k9_1, k9_10, k9_11, k9_14, k9_15, k9_16, k9_19, k9_4, k9_5, k9_6, k9_9, s_objInit, s_return, sp_3_0, sp_3_1, sp_3_2, some_e, exists_eq_left', igt, ite_not, not_true_eq_false, le5, le99, u1_s, Nat.add_left_cancel_iff, u3_d, eq_self, false_and, and_false, and_self, if_true, if_false, Nat.reduceEqDiff]
  simp only [e_lI0, e_lR0, e_st0, e_lI1, e_lR1, e_st1, e_lI2, e_lR2, e_st2, e_lI3, e_lR3, e_st3, e_lI4, e_lR4, e_st4, e_lI5, e_lR5, e_st5, e_lI6, e_lR6, e_st6, e_lI7, e_lR7, e_st7, e_lI8, e_lR8, e_st8, e_swn, e_swc, e_sw0, e_sw1, e_sw2, e_sw3, e_sw4, e_sw5, e_sw6, e_sw7, e_sw8, e_sw9, Option.toList_some, Option.toList_none, List.cons_append, List.nil_append, List.length_cons, List.length_nil, Nat.reduceAdd, Nat.reduceLeDiff, Nat.zero_le, Nat.le_refl, true_and, and_true, WP_eq, Nat.reduceSub, if_true, if_false, Nat.reduceEqDiff, not_false_eq_true, i_10, i_01, Int32.reduceLT, Int32.reduceLE, true_or, or_true, ne_eq, fk_2 hk, fk_8 hk, fk_11 hk, fk_20 hk, fk_29 hk, en_5, c_2, c_3, c_6, k5_0, k5_1, k5_10, k5_13, k5_14, k5_17, k5_18, k5_19, k5_20, k5_23, k5_24, k5_25, k5_28, k5_3, k5_31, k5_34, k5_37, k5_4, k5_7, k5_8, k5_9, s_aload_n, s_goto, s_icmp_ge, s_icmp_ne, s_iconst, s_iinc, s_iload_n, s_istore_n, s_return]
  rw [← WP_eq]
  have ne : ∀ k, k < E → ¬ rv 33 21 k = n := fun k hk' => kdne hkn (by rw [h7.2.1 k hk']; decide)
  have cas : ∀ k, k < E + 1 → k = E ∨ (k < E ∧ ¬ k = E) := fun k hk => by omega
  refine lp_jwe (E := E) (ec := va_up ec E x) (em := va_up em E y) hk2 hl hr2 (iv0 := u3 (u3 (u3 (u3 iv 3 n 0 x) 3 n 1 y) 3 n 2 (nI E)) 1 20 1 (nI E + 1)) ?_ (by omega) (fun i hi => ?_) (fun i j hi hj e => ?_) (fun i hi => ?_) (fun R iv' hB hJ => ?_) E 0 (va_up lst E E) _ (by omega) ⟨⟨fun _ _ => rfl, fun _ _ _ => rfl⟩, fun i hi => ?_⟩ ⟨fun i hi => ?_, fun a b ha hb hab hs => ?_⟩
  · rw [u3_s, nI_1]
  · rcases cas i hi with rfl | ⟨k1, k2⟩
    · rw [u3_s, u1_s]
    · rw [u3_j k2]; exact kdm hkn (by decide) (h7.2.1 i k1)
  · rcases cas i hi with rfl | ⟨i1, i2⟩ <;> rcases cas j hj with rfl | ⟨j1, j2⟩
    · rfl
    · rw [u3_s, u3_j j2] at e; exact absurd e.symm (ne j j1)
    · rw [u3_s, u3_j i2] at e; exact absurd e (ne i i1)
    · rw [u3_j i2, u3_j j2] at e; exact h7.2.2.1 i j i1 j1 e
  · rcases cas i hi with rfl | ⟨k1, k2⟩
    · simp only [Nat.add_left_cancel_iff, u3_d, eq_self, false_and, and_false, and_self, if_true, if_false, Nat.reduceEqDiff, up_s]
    · have k3 := ne i k1
      simp only [Nat.add_left_cancel_iff, u3_d, eq_self, false_and, and_false, and_self, if_true, if_false, Nat.reduceEqDiff, k2, k3, up_n k2]
      exact ⟨(h7.2.2.2.1 i k1).1, (h7.2.2.2.1 i k1).2.1⟩
  · simp only [e_lI0, e_lR0, e_st0, e_lI1, e_lR1, e_st1, e_lI2, e_lR2, e_st2, e_lI3, e_lR3, e_st3, e_lI4, e_lR4, e_st4, e_lI5, e_lR5, e_st5, e_lI6, e_lR6, e_st6, e_lI7, e_lR7, e_st7, e_lI8, e_lR8, e_st8, e_swn, e_swc, e_sw0, e_sw1, e_sw2, e_sw3, e_sw4, e_sw5, e_sw6, e_sw7, e_sw8, e_sw9, Option.toList_some, Option.toList_none, List.cons_append, List.nil_append, List.length_cons, List.length_nil, Nat.reduceAdd, Nat.reduceLeDiff, Nat.zero_le, Nat.le_refl, true_and, and_true, WP_eq, Nat.reduceSub, if_true, if_false, Nat.reduceEqDiff, not_false_eq_true, i_10, i_01, Int32.reduceLT, Int32.reduceLE, true_or, or_true, ne_eq, fk_2 hk, fk_8 hk, fk_11 hk, fk_20 hk, fk_29 hk, fr_1_20_0 hr, fk_21 hk, fl_21 hl, en_1, c_5, c_9, k1_0, k1_1, k1_10, k1_11, k1_14, k1_15, k1_17, k1_20, k1_21, k1_22, k1_23, k1_26, k1_28, k1_31, k1_32, k1_33, k1_34, k1_37, k1_38, k1_39, k1_4, k1_42, k1_43, k1_46, k1_47, k1_48, k1_49, k1_5, k1_50, k1_53, k1_54, k1_55, k1_56, k1_59, k1_60, k1_61, k1_64, k1_65, k1_66, k1_69, k1_7, k1_70, r_1, s_aastore, s_aload_n, s_bipush, s_dup, s_iadd, s_icmp_ge, s_icmp_le, s_icmp_lt, s_iconst, s_if_lt, s_iload_n, s_istore_n, s_ldc, s_new_3, sg_1_0, sg_1_1, sp_1_1, i_as]
    exact hc R iv' hB hJ
  · rcases cas i hi with rfl | ⟨k1, k2⟩
    · simp only [Nat.add_left_cancel_iff, u3_d, eq_self, false_and, and_false, and_self, if_true, if_false, Nat.reduceEqDiff, up_s]
    · have k3 := ne i k1
      simp only [Nat.add_left_cancel_iff, u3_d, eq_self, false_and, and_false, and_self, if_true, if_false, Nat.reduceEqDiff, k2, k3, up_n k2]
      exact (h7.2.2.2.1 i k1).2.2
  · rcases cas i hi with rfl | ⟨k1, k2⟩
    · rw [up_s]; exact ⟨Nat.le_refl _, fun g hg => rfl⟩
    · rw [up_n k2]
      obtain ⟨b1, b2⟩ := h7.2.2.2.2.1 i k1
      exact ⟨b1, b2.mono (fun k hk' => ⟨up_n (by omega), up_n (by omega)⟩)⟩
  · have a1 : a < E := by omega
    have b1 : b < E := by omega
    rw [up_n (by omega), up_n (by omega)]
    refine h7.2.2.2.2.2 a b a1 b1 ?_
    unfold smE at hs ⊢
    rw [up_n (by omega), up_n (by omega), up_n (by omega), up_n (by omega)] at hs
    exact hs
set_option maxRecDepth 100000 in
set_option maxHeartbeats 4000000 in
theorem op_entry {d : Nat} {x y : Int32} {L : Nat} {xs : Fn} {n : Nat} {kd ln : Nat → Nat} {iv : Nat → Nat → Nat → Int32} {rv : Nat → Nat → Nat → Nat} {S C Hn V E P T : Nat} {lst : Nat → Nat} (hI : Inv L xs n kd ln iv rv S C Hn V E P T lst) : Both (d + 15) 53 109 [.inl x, .inl y] L xs ((n, kd, ln), iv, rv) := by
  obtain ⟨⟨hk, hl, hr, hn, hkn, hL, hX⟩, hS, h1, h2, h3, h4, h5, h6, h7⟩ := id hI
  obtain ⟨z1, z2, z3, z4, z5, z6, z7, z8, z9, z10, z11, z12, z13, z14, z15, z16, z17, z18⟩ := id hS
  unfold Both
  have hE6 : E ≤ 60 := h7.1
  have sm : InvH L xs ((n, kd, ln), iv, rv) := ⟨S, C, Hn, V, E, P, T, lst, hI⟩
  by_cases c1 : 0 ≤ x
  · by_cases c2 : 6 ≤ x
    · simp only [c1, c2, sm, e_lI0, e_lR0, e_st0, e_lI1, e_lR1, e_st1, e_lI2, e_lR2, e_st2, e_lI3, e_lR3, e_st3, e_lI4, e_lR4, e_st4, e_lI5, e_lR5, e_st5, e_lI6, e_lR6, e_st6, e_lI7, e_lR7, e_st7, e_lI8, e_lR8, e_st8, e_swn, e_swc, e_sw0, e_sw1, e_sw2, e_sw3, e_sw4, e_sw5, e_sw6, e_sw7, e_sw8, e_sw9, Option.toList_some, Option.toList_none, List.cons_append, List.nil_append, List.length_cons, List.length_nil, Nat.reduceAdd, Nat.reduceLeDiff, Nat.zero_le, Nat.le_refl, true_and, and_true, WP_eq, Nat.reduceSub, if_true, if_false, Nat.reduceEqDiff, not_false_eq_true, i_10, i_01, Int32.reduceLT, Int32.reduceLE, true_or, or_true, ne_eq, fk_2 hk, fk_8 hk, fk_11 hk, fk_20 hk, fk_29 hk, fr_11_2_7 hr, fr_1_20_0 hr, fk_21 hk, fl_21 hl, fr_12_29_38 hr, fk_55 hk, fl_55 hl, fr_12_29_39 hr, fk_56 hk, fl_56 hl, en_53, c_1, k53_0, k53_1, k53_4, k53_5, k53_6, k53_9, r_53, s_aload_n, s_iload_n, sg_11_7, en_1, c_5, c_9, k1_0, k1_1, k1_10, k1_11, k1_14, k1_15, k1_17, k1_20, k1_21, k1_22, k1_23, k1_26, k1_28, k1_31, k1_32, k1_33, k1_34, k1_37, k1_38, k1_39, k1_4, k1_42, k1_43, k1_46, k1_47, k1_48, k1_49, k1_5, k1_50, k1_53, k1_54, k1_55, k1_56, k1_59, k1_60, k1_61, k1_64, k1_65, k1_66, k1_69, k1_7, k1_70, r_1, s_aastore, s_bipush, s_dup, s_iadd, s_icmp_ge, s_icmp_le, s_icmp_lt, s_iconst, s_if_lt, s_istore_n, s_ldc, s_new_3, sg_1_0, sg_1_1, sp_1_1, en_109, c_79, k109_0, k109_1, k109_10, k109_11, k109_13, k109_16, k109_19, k109_2, k109_20, k109_23, k109_25, k109_28, k109_29, k109_3, k109_30, k109_31, k109_34, k109_35, k109_38, k109_39, k109_40, k109_41, k109_44, k109_45, k109_48, k109_49, k109_50, k109_51, k109_52, k109_55, k109_56, k109_57, k109_6, k109_60, k109_61, k109_64, k109_65, k109_66, k109_9, r_109, s_iastore, s_icmp_ne, s_if_eq, s_isub, sg_12_37, sg_12_38, sg_12_39, sp_12_37, L_in, some_e, exists_eq_left', igt, ite_not, not_true_eq_false, le5, le99]
    · by_cases c3 : 0 ≤ y
      · by_cases c4 : y ≤ 99999
        · by_cases c5 : E = 60
          · subst c5
            have e1 : nI 60 = 60 := rfl
            simp only [c1, c2, c3, c4, z17, z18, e1, sm, e_lI0, e_lR0, e_st0, e_lI1, e_lR1, e_st1, e_lI2, e_lR2, e_st2, e_lI3, e_lR3, e_st3, e_lI4, e_lR4, e_st4, e_lI5, e_lR5, e_st5, e_lI6, e_lR6, e_st6, e_lI7, e_lR7, e_st7, e_lI8, e_lR8, e_st8, e_swn, e_swc, e_sw0, e_sw1, e_sw2, e_sw3, e_sw4, e_sw5, e_sw6, e_sw7, e_sw8, e_sw9, Option.toList_some, Option.toList_none, List.cons_append, List.nil_append, List.length_cons, List.length_nil, Nat.reduceAdd, Nat.reduceLeDiff, Nat.zero_le, Nat.le_refl, true_and, and_true, WP_eq, Nat.reduceSub, if_true, if_false, Nat.reduceEqDiff, not_false_eq_true, i_10, i_01, Int32.reduceLT, Int32.reduceLE, true_or, or_true, ne_eq, fk_2 hk, fk_8 hk, fk_11 hk, fk_20 hk, fk_29 hk, fr_11_2_7 hr, fr_1_20_0 hr, fk_21 hk, fl_21 hl, fr_12_29_38 hr, fk_55 hk, fl_55 hl, fr_12_29_39 hr, fk_56 hk, fl_56 hl, en_53, c_1, k53_0, k53_1, k53_4, k53_5, k53_6, k53_9, r_53, s_aload_n, s_iload_n, sg_11_7, en_1, c_5, c_9, k1_0, k1_1, k1_10, k1_11, k1_14, k1_15, k1_17, k1_20, k1_21, k1_22, k1_23, k1_26, k1_28, k1_31, k1_32, k1_33, k1_34, k1_37, k1_38, k1_39, k1_4, k1_42, k1_43, k1_46, k1_47, k1_48, k1_49, k1_5, k1_50, k1_53, k1_54, k1_55, k1_56, k1_59, k1_60, k1_61, k1_64, k1_65, k1_66, k1_69, k1_7, k1_70, r_1, s_aastore, s_bipush, s_dup, s_iadd, s_icmp_ge, s_icmp_le, s_icmp_lt, s_iconst, s_if_lt, s_istore_n, s_ldc, s_new_3, sg_1_0, sg_1_1, sp_1_1, en_109, c_79, k109_0, k109_1, k109_10, k109_11, k109_13, k109_16, k109_19, k109_2, k109_20, k109_23, k109_25, k109_28, k109_29, k109_3, k109_30, k109_31, k109_34, k109_35, k109_38, k109_39, k109_40, k109_41, k109_44, k109_45, k109_48, k109_49, k109_50, k109_51, k109_52, k109_55, k109_56, k109_57, k109_6, k109_60, k109_61, k109_64, k109_65, k109_66, k109_9, r_109, s_iastore, s_icmp_ne, s_if_eq, s_isub, sg_12_37, sg_12_38, sg_12_39, sp_12_37, L_in, some_e, exists_eq_left', igt, ite_not, not_true_eq_false, le5, le99]
          · have c9 : ¬ nI E = 60 := fun e => c5 ((nI_eq (a := E) (b := 60) (by omega) (by decide)).mp e)
            have hin : vp_in (nI E) 60 := vp_in_nI (by omega) (by decide)
            have hcl : (nI E).toNatClampNeg = E := nI_clamp (by omega)
            simp only [e_lI0, e_lR0, e_st0, e_lI1, e_lR1, e_st1, e_lI2, e_lR2, e_st2, e_lI3, e_lR3, e_st3, e_lI4, e_lR4, e_st4, e_lI5, e_lR5, e_st5, e_lI6, e_lR6, e_st6, e_lI7, e_lR7, e_st7, e_lI8, e_lR8, e_st8, e_swn, e_swc, e_sw0, e_sw1, e_sw2, e_sw3, e_sw4, e_sw5, e_sw6, e_sw7, e_sw8, e_sw9, Option.toList_some, Option.toList_none, List.cons_append, List.nil_append, List.length_cons, List.length_nil, Nat.reduceAdd, Nat.reduceLeDiff, Nat.zero_le, Nat.le_refl, true_and, and_true, WP_eq, Nat.reduceSub, if_true, if_false, Nat.reduceEqDiff, not_false_eq_true, i_10, i_01, Int32.reduceLT, Int32.reduceLE, true_or, or_true, ne_eq, fk_2 hk, fk_8 hk, fk_11 hk, fk_20 hk, fk_29 hk, fr_11_2_7 hr, en_53, c_1, k53_0, k53_1, k53_4, k53_5, k53_6, k53_9, r_53, s_aload_n, s_iload_n, sg_11_7]
            refine L_write (d := d + 10) hk hl hr hn hkn z17 (by omega) c1 c2 c3 c4 h7 (fun R iv' hB hJ => ?_)
            have hk0 := hk
            have hr0 := hr
            have hk2 : FixK (u1 kd n 3) := hk.new hn
            have hr2 : FixR (u3 rv 33 21 E n) := hr.put (Or.inl (by decide))
            have hk := hk2
            have hr := hr2
            have g12 : iv' 12 = iv 12 := by rw [hB.1.1 12 (by decide), u3_c (by decide), u3_c (by decide), u3_c (by decide), u3_c (by decide)]
            have gK : ∀ K, K ≠ 3 → K ≠ 1 → iv' K = iv K := fun K a1 a2 => by rw [hB.1.1 K a1, u3_c a2, u3_c a1, u3_c a1, u3_c a1]
            have g1 : iv' 1 20 1 = nI E + 1 := by rw [hB.1.1 1 (by decide), u3_s]
            simp only [g12, fr_12_29_38 hr0, fr_12_29_39 hr0, c1, c2, c3, c4, c9, hin, hcl, z18, i_as, e_lI0, e_lR0, e_st0, e_lI1, e_lR1, e_st1, e_lI2, e_lR2, e_st2, e_lI3, e_lR3, e_st3, e_lI4, e_lR4, e_st4, e_lI5, e_lR5, e_st5, e_lI6, e_lR6, e_st6, e_lI7, e_lR7, e_st7, e_lI8, e_lR8, e_st8, e_swn, e_swc, e_sw0, e_sw1, e_sw2, e_sw3, e_sw4, e_sw5, e_sw6, e_sw7, e_sw8, e_sw9, Option.toList_some, Option.toList_none, List.cons_append, List.nil_append, List.length_cons, List.length_nil, Nat.reduceAdd, Nat.reduceLeDiff, Nat.zero_le, Nat.le_refl, true_and, and_true, WP_eq, Nat.reduceSub, if_true, if_false, Nat.reduceEqDiff, not_false_eq_true, i_10, i_01, Int32.reduceLT, Int32.reduceLE, true_or, or_true, ne_eq, fk_2 hk, fk_8 hk, fk_11 hk, fk_20 hk, fk_29 hk, fr_11_2_7 hr, fr_12_29_38 hr, fk_55 hk, fl_55 hl, fr_12_29_39 hr, fk_56 hk, fl_56 hl, en_53, c_1, k53_0, k53_1, k53_4, k53_5, k53_6, k53_9, r_53, s_aload_n, s_iload_n, sg_11_7, en_109, c_79, k109_0, k109_1, k109_10, k109_11, k109_13, k109_16, k109_19, k109_2, k109_20, k109_23, k109_25, k109_28, k109_29, k109_3, k109_30, k109_31, k109_34, k109_35, k109_38, k109_39, k109_40, k109_41, k109_44, k109_45, k109_48, k109_49, k109_50, k109_51, k109_52, k109_55, k109_56, k109_57, k109_6, k109_60, k109_61, k109_64, k109_65, k109_66, k109_9, r_109, s_bipush, s_dup, s_iadd, s_iastore, s_icmp_ne, s_iconst, s_if_eq, s_isub, s_ldc, sg_12_37, sg_12_38, sg_12_39, sp_12_37, L_in, some_e, exists_eq_left', igt, ite_not, not_true_eq_false, le5, le99, Nat.add_left_cancel_iff, u3_d, eq_self, false_and, and_false, and_self, if_true, if_false, Nat.reduceEqDiff]
            refine ⟨S, C, Hn, V, E + 1, P, T, R, ?_⟩
            simp (disch := decide) only [Inv, Scal, u3_c, u3_a, u3_j, u3_s, gK, g1]
            refine ⟨⟨hk2, hl, hr2, by omega, hkn_new hkn, hL, hX⟩, ⟨z1, z2, z3, z4, z5, z6, z7, z8, z9, z10, z11, z12, z13, z14, z15, z16, nI_1 E, nI_1 E⟩, h1.kd fun a => kdm hkn (by decide), h2.kd fun a => kdm hkn (by decide), h3.kd fun a => kdm hkn (by decide), h4.kd fun a => kdm hkn (by decide), h5, h6.kd fun a => kdm hkn (by decide), ?_⟩
            have ne : ∀ k, k < E → ¬ rv 33 21 k = n := fun k hk' => kdne hkn (by rw [h7.2.1 k hk']; decide)
            have cas : ∀ k, k < E + 1 → k = E ∨ (k < E ∧ ¬ k = E) := fun k hk => by omega
            simp only [u3_f, u3_a (show (56 : Nat) ≠ 55 by decide), gK 20 (by decide) (by decide)]
            refine ⟨by omega, fun i hi => ?_, fun i j hi hj e => ?_, fun i hi => ?_, hJ.1, fun a b ha hb hs => ?_⟩
            · rcases cas i hi with rfl | ⟨k1, k2⟩
              · rw [up_s, u1_s]
              · rw [up_n k2]; exact kdm hkn (by decide) (h7.2.1 i k1)
            · rcases cas i hi with rfl | ⟨i1, i2⟩ <;> rcases cas j hj with rfl | ⟨j1, j2⟩
              · rfl
              · rw [up_s, up_n j2] at e; exact absurd e.symm (ne j j1)
              · rw [up_s, up_n i2] at e; exact absurd e (ne i i1)
              · rw [up_n i2, up_n j2] at e; exact h7.2.2.1 i j i1 j1 e
            · have hb := hB.2 i hi
              rw [u3_f] at hb
              rw [hb, hB.1.2 _ _ (by decide), hB.1.2 _ _ (by decide)]
              rcases cas i hi with rfl | ⟨k1, k2⟩
              · simp only [Nat.add_left_cancel_iff, u3_d, eq_self, false_and, and_false, and_self, if_true, if_false, Nat.reduceEqDiff, up_s]
              · have k3 := ne i k1
                simp only [Nat.add_left_cancel_iff, u3_d, eq_self, false_and, and_false, and_self, if_true, if_false, Nat.reduceEqDiff, k2, k3, up_n k2]
                exact ⟨(h7.2.2.2.1 i k1).1, (h7.2.2.2.1 i k1).2.1, trivial⟩
            · by_cases e : a = b
              · rw [e]
              · exact hJ.2 a b ha hb (by omega) hs
        · simp only [c1, c2, c3, c4, sm, e_lI0, e_lR0, e_st0, e_lI1, e_lR1, e_st1, e_lI2, e_lR2, e_st2, e_lI3, e_lR3, e_st3, e_lI4, e_lR4, e_st4, e_lI5, e_lR5, e_st5, e_lI6, e_lR6, e_st6, e_lI7, e_lR7, e_st7, e_lI8, e_lR8, e_st8, e_swn, e_swc, e_sw0, e_sw1, e_sw2, e_sw3, e_sw4, e_sw5, e_sw6, e_sw7, e_sw8, e_sw9, Option.toList_some, Option.toList_none, List.cons_append, List.nil_append, List.length_cons, List.length_nil, Nat.reduceAdd, Nat.reduceLeDiff, Nat.zero_le, Nat.le_refl, true_and, and_true, WP_eq, Nat.reduceSub, if_true, if_false, Nat.reduceEqDiff, not_false_eq_true, i_10, i_01, Int32.reduceLT, Int32.reduceLE, true_or, or_true, ne_eq, fk_2 hk, fk_8 hk, fk_11 hk, fk_20 hk, fk_29 hk, fr_11_2_7 hr, fr_1_20_0 hr, fk_21 hk, fl_21 hl, fr_12_29_38 hr, fk_55 hk, fl_55 hl, fr_12_29_39 hr, fk_56 hk, fl_56 hl, en_53, c_1, k53_0, k53_1, k53_4, k53_5, k53_6, k53_9, r_53, s_aload_n, s_iload_n, sg_11_7, en_1, c_5, c_9, k1_0, k1_1, k1_10, k1_11, k1_14, k1_15, k1_17, k1_20, k1_21, k1_22, k1_23, k1_26, k1_28, k1_31, k1_32, k1_33, k1_34, k1_37, k1_38, k1_39, k1_4, k1_42, k1_43, k1_46, k1_47, k1_48, k1_49, k1_5, k1_50, k1_53, k1_54, k1_55, k1_56, k1_59, k1_60, k1_61, k1_64, k1_65, k1_66, k1_69, k1_7, k1_70, r_1, s_aastore, s_bipush, s_dup, s_iadd, s_icmp_ge, s_icmp_le, s_icmp_lt, s_iconst, s_if_lt, s_istore_n, s_ldc, s_new_3, sg_1_0, sg_1_1, sp_1_1, en_109, c_79, k109_0, k109_1, k109_10, k109_11, k109_13, k109_16, k109_19, k109_2, k109_20, k109_23, k109_25, k109_28, k109_29, k109_3, k109_30, k109_31, k109_34, k109_35, k109_38, k109_39, k109_40, k109_41, k109_44, k109_45, k109_48, k109_49, k109_50, k109_51, k109_52, k109_55, k109_56, k109_57, k109_6, k109_60, k109_61, k109_64, k109_65, k109_66, k109_9, r_109, s_iastore, s_icmp_ne, s_if_eq, s_isub, sg_12_37, sg_12_38, sg_12_39, sp_12_37, L_in, some_e, exists_eq_left', igt, ite_not, not_true_eq_false, le5, le99]
      · simp only [c1, c2, c3, sm, e_lI0, e_lR0, e_st0, e_lI1, e_lR1, e_st1, e_lI2, e_lR2, e_st2, e_lI3, e_lR3, e_st3, e_lI4, e_lR4, e_st4, e_lI5, e_lR5, e_st5, e_lI6, e_lR6, e_st6, e_lI7, e_lR7, e_st7, e_lI8, e_lR8, e_st8, e_swn, e_swc, e_sw0, e_sw1, e_sw2, e_sw3, e_sw4, e_sw5, e_sw6, e_sw7, e_sw8, e_sw9, Option.toList_some, Option.toList_none, List.cons_append, List.nil_append, List.length_cons, List.length_nil, Nat.reduceAdd, Nat.reduceLeDiff, Nat.zero_le, Nat.le_refl, true_and, and_true, WP_eq, Nat.reduceSub, if_true, if_false, Nat.reduceEqDiff, not_false_eq_true, i_10, i_01, Int32.reduceLT, Int32.reduceLE, true_or, or_true, ne_eq, fk_2 hk, fk_8 hk, fk_11 hk, fk_20 hk, fk_29 hk, fr_11_2_7 hr, fr_1_20_0 hr, fk_21 hk, fl_21 hl, fr_12_29_38 hr, fk_55 hk, fl_55 hl, fr_12_29_39 hr, fk_56 hk, fl_56 hl, en_53, c_1, k53_0, k53_1, k53_4, k53_5, k53_6, k53_9, r_53, s_aload_n, s_iload_n, sg_11_7, en_1, c_5, c_9, k1_0, k1_1, k1_10, k1_11, k1_14, k1_15, k1_17, k1_20, k1_21, k1_22, k1_23, k1_26, k1_28, k1_31, k1_32, k1_33, k1_34, k1_37, k1_38, k1_39, k1_4, k1_42, k1_43, k1_46, k1_47, k1_48, k1_49, k1_5, k1_50, k1_53, k1_54, k1_55, k1_56, k1_59, k1_60, k1_61, k1_64, k1_65, k1_66, k1_69, k1_7, k1_70, r_1, s_aastore, s_bipush, s_dup, s_iadd, s_icmp_ge, s_icmp_le, s_icmp_lt, s_iconst, s_if_lt, s_istore_n, s_ldc, s_new_3, sg_1_0, sg_1_1, sp_1_1, en_109, c_79, k109_0, k109_1, k109_10, k109_11, k109_13, k109_16, k109_19, k109_2, k109_20, k109_23, k109_25, k109_28, k109_29, k109_3, k109_30, k109_31, k109_34, k109_35, k109_38, k109_39, k109_40, k109_41, k109_44, k109_45, k109_48, k109_49, k109_50, k109_51, k109_52, k109_55, k109_56, k109_57, k109_6, k109_60, k109_61, k109_64, k109_65, k109_66, k109_9, r_109, s_iastore, s_icmp_ne, s_if_eq, s_isub, sg_12_37, sg_12_38, sg_12_39, sp_12_37, L_in, some_e, exists_eq_left', igt, ite_not, not_true_eq_false, le5, le99]
  · simp only [c1, sm, e_lI0, e_lR0, e_st0, e_lI1, e_lR1, e_st1, e_lI2, e_lR2, e_st2, e_lI3, e_lR3, e_st3, e_lI4, e_lR4, e_st4, e_lI5, e_lR5, e_st5, e_lI6, e_lR6, e_st6, e_lI7, e_lR7, e_st7, e_lI8, e_lR8, e_st8, e_swn, e_swc, e_sw0, e_sw1, e_sw2, e_sw3, e_sw4, e_sw5, e_sw6, e_sw7, e_sw8, e_sw9, Option.toList_some, Option.toList_none, List.cons_append, List.nil_append, List.length_cons, List.length_nil, Nat.reduceAdd, Nat.reduceLeDiff, Nat.zero_le, Nat.le_refl, true_and, and_true, WP_eq, Nat.reduceSub, if_true, if_false, Nat.reduceEqDiff, not_false_eq_true, i_10, i_01, Int32.reduceLT, Int32.reduceLE, true_or, or_true, ne_eq, fk_2 hk, fk_8 hk, fk_11 hk, fk_20 hk, fk_29 hk, fr_11_2_7 hr, fr_1_20_0 hr, fk_21 hk, fl_21 hl, fr_12_29_38 hr, fk_55 hk, fl_55 hl, fr_12_29_39 hr, fk_56 hk, fl_56 hl, en_53, c_1, k53_0, k53_1, k53_4, k53_5, k53_6, k53_9, r_53, s_aload_n, s_iload_n, sg_11_7, en_1, c_5, c_9, k1_0, k1_1, k1_10, k1_11, k1_14, k1_15, k1_17, k1_20, k1_21, k1_22, k1_23, k1_26, k1_28, k1_31, k1_32, k1_33, k1_34, k1_37, k1_38, k1_39, k1_4, k1_42, k1_43, k1_46, k1_47, k1_48, k1_49, k1_5, k1_50, k1_53, k1_54, k1_55, k1_56, k1_59, k1_60, k1_61, k1_64, k1_65, k1_66, k1_69, k1_7, k1_70, r_1, s_aastore, s_bipush, s_dup, s_iadd, s_icmp_ge, s_icmp_le, s_icmp_lt, s_iconst, s_if_lt, s_istore_n, s_ldc, s_new_3, sg_1_0, sg_1_1, sp_1_1, en_109, c_79, k109_0, k109_1, k109_10, k109_11, k109_13, k109_16, k109_19, k109_2, k109_20, k109_23, k109_25, k109_28, k109_29, k109_3, k109_30, k109_31, k109_34, k109_35, k109_38, k109_39, k109_40, k109_41, k109_44, k109_45, k109_48, k109_49, k109_50, k109_51, k109_52, k109_55, k109_56, k109_57, k109_6, k109_60, k109_61, k109_64, k109_65, k109_66, k109_9, r_109, s_iastore, s_icmp_ne, s_if_eq, s_isub, sg_12_37, sg_12_38, sg_12_39, sp_12_37, L_in, some_e, exists_eq_left', igt, ite_not, not_true_eq_false, le5, le99]
