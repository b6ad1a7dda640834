/-! the reference's rows beside the pure ones -/
def MR (iv0 iv : Nat → Nat → Nat → Int32) (s : PS) (q : Fn × Fn) (t fr : Int32) : Prop :=
  (∀ K, K ≠ 20 → K ≠ 12 → iv K = iv0 K) ∧ (∀ a, a ≠ 32 → a ≠ 34 → a ≠ 43 → a ≠ 49 → a ≠ 50 → iv 20 a = iv0 20 a) ∧
  (iv 20 32 = s.1 ∧ iv 20 34 = s.2.1 ∧ iv 20 43 = s.2.2) ∧ (iv 20 49 = q.1 ∧ iv 20 50 = q.2) ∧
  (∀ j, j ≠ 0 → j ≠ 32 → iv 12 29 j = iv0 12 29 j) ∧ iv 12 29 0 = t ∧ iv 12 29 32 = fr
def GM (C Hn P : Nat) (iv0 : Nat → Nat → Nat → Int32) : Prop :=
  iv0 12 29 11 = nI Hn ∧ Hn ≤ 30 ∧ iv0 12 29 4 = nI C ∧ C ≤ 400 ∧ iv0 12 29 20 = nI P ∧ P ≤ 40 ∧ (∀ i, i < Hn → (iv0 20 41 i = -1 ↔ iv0 20 42 i = -1))
set_option maxRecDepth 100000 in
set_option maxHeartbeats 4000000 in
theorem lp_best {d Hn P : Nat} {x t : Int32} {go : Fn} {n : Nat} {kd ln : Nat → Nat} {iv : Nat → Nat → Nat → Int32} {rv : Nat → Nat → Nat → Nat} {Q : Rt} {bc bs : Nat} (hk : FixK kd) (hl : FixL ln) (hr : FixR rv) (hH : iv 12 29 11 = nI Hn) (hH3 : Hn ≤ 30) (hP : iv 12 29 20 = nI P) (hP4 : P ≤ 40) (ht : iv 12 29 0 = t) (hq : ∀ i, i < Hn → (iv 20 41 i = -1 ↔ iv 20 42 i = -1)) (hgo : iv 20 43 = go) :
    ∀ k i, i + k = Hn → WPc (MW (d + 3)) 103 Q 26 [some (.inr 29), some (.inl x), some (.inl (ruB (bst (dueW iv P t) go i))), some (.inl (nI i))] [] ((n, kd, ln), iv, rv) bc bs = WPc (MW (d + 3)) 103 Q 70 [some (.inr 29), some (.inl x), some (.inl (ruB (bst (dueW iv P t) go Hn))), some (.inl (nI Hn))] [] ((n, kd, ln), iv, rv) bc bs := by
  intro k
  induction k with
  | zero =>
    intro i hi
    obtain rfl : i = Hn := by omega
    rw [WP_eq, k103_26]
    simp only [e_lI0, e_lR0, e_st0, e_lI1, e_lR1, e_st1, e_lI2, e_lR2, e_st2, e_lI3, e_lR3, e_st3, e_lI4, e_lR4, e_st4, e_lI5, e_lR5, e_st5, e_lI6, e_lR6, e_st6, e_lI7, e_lR7, e_st7, e_lI8, e_lR8, e_st8, e_swn, e_swc, e_sw0, e_sw1, e_sw2, e_sw3, e_sw4, e_sw5, e_sw6, e_sw7, e_sw8, e_sw9, Option.toList_some, Option.toList_none, List.cons_append, List.nil_append, List.length_cons, List.length_nil, Nat.reduceAdd, Nat.reduceLeDiff, Nat.zero_le, Nat.le_refl, true_and, and_true, WP_eq, Nat.reduceSub, if_true, if_false, Nat.reduceEqDiff, not_false_eq_true, i_10, i_01, Int32.reduceLT, Int32.reduceLE, true_or, or_true, ne_eq, fk_2 hk, fk_8 hk, fk_11 hk, fk_20 hk, fk_29 hk, fr_12_29_5 hr, fk_32 hk, fl_32 hl, fr_12_29_17 hr, fk_43 hk, fl_43 hl, en_103, c_87, c_95, k103_0, k103_1, k103_10, k103_11, k103_14, k103_15, k103_16, k103_19, k103_22, k103_23, k103_24, k103_25, k103_27, k103_28, k103_3, k103_31, k103_34, k103_35, k103_36, k103_39, k103_4, k103_42, k103_43, k103_44, k103_47, k103_48, k103_51, k103_52, k103_53, k103_54, k103_57, k103_58, k103_59, k103_62, k103_63, k103_64, k103_67, k103_7, k103_71, k103_72, k103_75, k103_76, k103_77, k103_78, k103_79, k103_82, k103_85, k103_88, s_aload_n, s_goto, s_iaload20, s_icmp_eq, s_icmp_ge, s_icmp_ne, s_iconst, s_if_eq, s_if_le, s_iinc, s_iload_n, s_istore_n, s_return, sg_12_11, sg_12_17, sg_12_4, sg_12_5, hH, nI_self_le]
  | succ k ih =>
    intro i hi
    have hiH : i < Hn := by omega
    have c1 : ¬ nI Hn ≤ nI i := nI_ge hiH (by omega)
    have hin : vp_in (nI i) 30 := vp_in_nI (by omega) (by decide)
    have hcl : (nI i).toNatClampNeg = i := nI_clamp (by omega)
    have hstep : bst (dueW iv P t) go (i + 1) = if dueW iv P t i ≤ 0 then bst (dueW iv P t) go i else (match bst (dueW iv P t) go i with | none => some i | some b => if go b ≤ go i then some b else some i) := rfl
    have hdw : dueF (iv 20 41) (iv 20 42) (iv 20 40) (ruW (iv 20 47) (pick (iv 20 46) t P)) t i = dueW iv P t i := rfl
    rw [WP_eq (pc := 26), k103_26]
    by_cases c2 : dueW iv P t i ≤ 0
    · rw [if_pos c2] at hstep
      simp only [hH, c1, hin, hcl, c_87, c_95, k103_0, k103_1, k103_10, k103_11, k103_14, k103_15, k103_16, k103_19, k103_22, k103_23, k103_24, k103_25, k103_27, k103_28, k103_3, k103_31, k103_34, k103_35, k103_36, k103_39, k103_4, k103_42, k103_43, k103_44, k103_47, k103_48, k103_51, k103_52, k103_53, k103_54, k103_57, k103_58, k103_59, k103_62, k103_63, k103_64, k103_67, k103_7, k103_71, k103_72, k103_75, k103_76, k103_77, k103_78, k103_79, k103_82, k103_85, k103_88, s_aload_n, s_goto, s_iaload20, s_icmp_eq, s_icmp_ge, s_icmp_ne, s_iconst, s_if_eq, s_if_le, s_iinc, s_iload_n, s_istore_n, s_return, sg_12_11, sg_12_17, sg_12_4, sg_12_5, e_lI0, e_lR0, e_st0, e_lI1, e_lR1, e_st1, e_lI2, e_lR2, e_st2, e_lI3, e_lR3, e_st3, e_lI4, e_lR4, e_st4, e_lI5, e_lR5, e_st5, e_lI6, e_lR6, e_st6, e_lI7, e_lR7, e_st7, e_lI8, e_lR8, e_st8, e_swn, e_swc, e_sw0, e_sw1, e_sw2, e_sw3, e_sw4, e_sw5, e_sw6, e_sw7, e_sw8, e_sw9, Option.toList_some, Option.toList_none, List.cons_append, List.nil_append, List.length_cons, List.length_nil, Nat.reduceAdd, Nat.reduceLeDiff, Nat.zero_le, Nat.le_refl, true_and, and_true, WP_eq, Nat.reduceSub, if_true, if_false, Nat.reduceEqDiff, not_false_eq_true, i_10, i_01, Int32.reduceLT, Int32.reduceLE, true_or, or_true, ne_eq, fk_29 hk, L_dueTo hk hl hr hP hP4 ht (show i < 30 by omega) (hq i hiH), hdw, c2]
      rw [← WP_eq, nI_1, ← WP_eq, ← ih (i + 1) (by omega), hstep]
    · rw [if_neg c2] at hstep
      cases hp : bst (dueW iv P t) go i with
      | none =>
        rw [hp] at hstep
        have e1 : ruB none = -1 := rfl
        simp only [hH, c1, hin, hcl, c_87, c_95, k103_0, k103_1, k103_10, k103_11, k103_14, k103_15, k103_16, k103_19, k103_22, k103_23, k103_24, k103_25, k103_27, k103_28, k103_3, k103_31, k103_34, k103_35, k103_36, k103_39, k103_4, k103_42, k103_43, k103_44, k103_47, k103_48, k103_51, k103_52, k103_53, k103_54, k103_57, k103_58, k103_59, k103_62, k103_63, k103_64, k103_67, k103_7, k103_71, k103_72, k103_75, k103_76, k103_77, k103_78, k103_79, k103_82, k103_85, k103_88, s_aload_n, s_goto, s_iaload20, s_icmp_eq, s_icmp_ge, s_icmp_ne, s_iconst, s_if_eq, s_if_le, s_iinc, s_iload_n, s_istore_n, s_return, sg_12_11, sg_12_17, sg_12_4, sg_12_5, e_lI0, e_lR0, e_st0, e_lI1, e_lR1, e_st1, e_lI2, e_lR2, e_st2, e_lI3, e_lR3, e_st3, e_lI4, e_lR4, e_st4, e_lI5, e_lR5, e_st5, e_lI6, e_lR6, e_st6, e_lI7, e_lR7, e_st7, e_lI8, e_lR8, e_st8, e_swn, e_swc, e_sw0, e_sw1, e_sw2, e_sw3, e_sw4, e_sw5, e_sw6, e_sw7, e_sw8, e_sw9, Option.toList_some, Option.toList_none, List.cons_append, List.nil_append, List.length_cons, List.length_nil, Nat.reduceAdd, Nat.reduceLeDiff, Nat.zero_le, Nat.le_refl, true_and, and_true, WP_eq, Nat.reduceSub, if_true, if_false, Nat.reduceEqDiff, not_false_eq_true, i_10, i_01, Int32.reduceLT, Int32.reduceLE, true_or, or_true, ne_eq, fk_29 hk, L_dueTo hk hl hr hP hP4 ht (show i < 30 by omega) (hq i hiH), hdw, c2, e1]
        rw [← WP_eq, nI_1, ← WP_eq, ← ih (i + 1) (by omega), hstep]
        rfl
      | some b =>
        rw [hp] at hstep
        have hb := bst_lt i b hp
        have e1 : ruB (some b) = nI b := rfl
        have e2 : ¬ nI b = -1 := nI_m1 (by omega)
        have b1 : vp_in (nI b) 30 := vp_in_nI (by omega) (by decide)
        have b2 : (nI b).toNatClampNeg = b := nI_clamp (by omega)
        dsimp only at hstep
        by_cases c3 : go b ≤ go i
        · rw [if_pos c3] at hstep
          simp only [hH, c1, hin, hcl, b1, b2, c_87, c_95, k103_0, k103_1, k103_10, k103_11, k103_14, k103_15, k103_16, k103_19, k103_22, k103_23, k103_24, k103_25, k103_27, k103_28, k103_3, k103_31, k103_34, k103_35, k103_36, k103_39, k103_4, k103_42, k103_43, k103_44, k103_47, k103_48, k103_51, k103_52, k103_53, k103_54, k103_57, k103_58, k103_59, k103_62, k103_63, k103_64, k103_67, k103_7, k103_71, k103_72, k103_75, k103_76, k103_77, k103_78, k103_79, k103_82, k103_85, k103_88, s_aload_n, s_goto, s_iaload20, s_icmp_eq, s_icmp_ge, s_icmp_ne, s_iconst, s_if_eq, s_if_le, s_iinc, s_iload_n, s_istore_n, s_return, sg_12_11, sg_12_17, sg_12_4, sg_12_5, e_lI0, e_lR0, e_st0, e_lI1, e_lR1, e_st1, e_lI2, e_lR2, e_st2, e_lI3, e_lR3, e_st3, e_lI4, e_lR4, e_st4, e_lI5, e_lR5, e_st5, e_lI6, e_lR6, e_st6, e_lI7, e_lR7, e_st7, e_lI8, e_lR8, e_st8, e_swn, e_swc, e_sw0, e_sw1, e_sw2, e_sw3, e_sw4, e_sw5, e_sw6, e_sw7, e_sw8, e_sw9, Option.toList_some, Option.toList_none, List.cons_append, List.nil_append, List.length_cons, List.length_nil, Nat.reduceAdd, Nat.reduceLeDiff, Nat.zero_le, Nat.le_refl, true_and, and_true, WP_eq, Nat.reduceSub, if_true, if_false, Nat.reduceEqDiff, not_false_eq_true, i_10, i_01, Int32.reduceLT, Int32.reduceLE, true_or, or_true, ne_eq, fk_29 hk, fr_12_29_17 hr, fk_43 hk, fl_43 hl, hgo, L_dueTo hk hl hr hP hP4 ht (show i < 30 by omega) (hq i hiH), hdw, c2, e1, e2, c3]
          rw [← WP_eq, nI_1, ← WP_eq, ← ih (i + 1) (by omega), hstep]
          rfl
        · rw [if_neg c3] at hstep
          simp only [hH, c1, hin, hcl, b1, b2, c_87, c_95, k103_0, k103_1, k103_10, k103_11, k103_14, k103_15, k103_16, k103_19, k103_22, k103_23, k103_24, k103_25, k103_27, k103_28, k103_3, k103_31, k103_34, k103_35, k103_36, k103_39, k103_4, k103_42, k103_43, k103_44, k103_47, k103_48, k103_51, k103_52, k103_53, k103_54, k103_57, k103_58, k103_59, k103_62, k103_63, k103_64, k103_67, k103_7, k103_71, k103_72, k103_75, k103_76, k103_77, k103_78, k103_79, k103_82, k103_85, k103_88, s_aload_n, s_goto, s_iaload20, s_icmp_eq, s_icmp_ge, s_icmp_ne, s_iconst, s_if_eq, s_if_le, s_iinc, s_iload_n, s_istore_n, s_return, sg_12_11, sg_12_17, sg_12_4, sg_12_5, e_lI0, e_lR0, e_st0, e_lI1, e_lR1, e_st1, e_lI2, e_lR2, e_st2, e_lI3, e_lR3, e_st3, e_lI4, e_lR4, e_st4, e_lI5, e_lR5, e_st5, e_lI6, e_lR6, e_st6, e_lI7, e_lR7, e_st7, e_lI8, e_lR8, e_st8, e_swn, e_swc, e_sw0, e_sw1, e_sw2, e_sw3, e_sw4, e_sw5, e_sw6, e_sw7, e_sw8, e_sw9, Option.toList_some, Option.toList_none, List.cons_append, List.nil_append, List.length_cons, List.length_nil, Nat.reduceAdd, Nat.reduceLeDiff, Nat.zero_le, Nat.le_refl, true_and, and_true, WP_eq, Nat.reduceSub, if_true, if_false, Nat.reduceEqDiff, not_false_eq_true, i_10, i_01, Int32.reduceLT, Int32.reduceLE, true_or, or_true, ne_eq, fk_29 hk, fr_12_29_17 hr, fk_43 hk, fl_43 hl, hgo, L_dueTo hk hl hr hP hP4 ht (show i < 30 by omega) (hq i hiH), hdw, c2, e1, e2, c3]
          rw [← WP_eq, nI_1, ← WP_eq, ← ih (i + 1) (by omega), hstep]
          rfl
