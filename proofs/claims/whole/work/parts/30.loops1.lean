theorem bx_succ {f : Fn} {k : Nat} : bx_sum f k + f k = bx_sum f (k + 1) := rfl
theorem nI_self_le {k : Nat} : nI k ≤ nI k := Int32.le_refl _
set_option maxRecDepth 100000 in
set_option maxHeartbeats 4000000 in
theorem lp_doubles {d C : Nat} {n : Nat} {kd ln : Nat → Nat} {iv : Nat → Nat → Nat → Int32} {rv : Nat → Nat → Nat → Nat} {Q : Rt} {bc bs : Nat} (hk : FixK kd) (hl : FixL ln) (hr : FixR rv) (hC : iv 11 2 11 = nI C) (hC4 : C ≤ 400) (hkd : ∀ c, c < C → kd (rv 32 5 c) = 2) :
    ∀ k i, i + k = C → WPc (MW d) 69 Q 4 [some (.inr 2), some (.inl (bx_sum (fun c => iv 2 (rv 32 5 c) 5) i)), some (.inl (nI i))] [] ((n, kd, ln), iv, rv) bc bs = Q (some (.inl (bx_sum (fun c => iv 2 (rv 32 5 c) 5) C))) ((n, kd, ln), iv, rv) := by
  intro k
  induction k with
  | zero =>
    intro i hi
    obtain rfl : i = C := by omega
    rw [WP_eq, k69_4]
    simp only [e_lI0, e_lR0, e_st0, e_lI1, e_lR1, e_st1, e_lI2, e_lR2, e_st2, e_lI3, e_lR3, e_st3, e_lI4, e_lR4, e_st4, e_lI5, e_lR5, e_st5, e_lI6, e_lR6, e_st6, e_lI7, e_lR7, e_st7, e_lI8, e_lR8, e_st8, e_swn, e_swc, e_sw0, e_sw1, e_sw2, e_sw3, e_sw4, e_sw5, e_sw6, e_sw7, e_sw8, e_sw9, Option.toList_some, Option.toList_none, List.cons_append, List.nil_append, List.length_cons, List.length_nil, Nat.reduceAdd, Nat.reduceLeDiff, Nat.zero_le, Nat.le_refl, true_and, and_true, WP_eq, Nat.reduceSub, if_true, if_false, Nat.reduceEqDiff, not_false_eq_true, i_10, i_01, Int32.reduceLT, Int32.reduceLE, true_or, or_true, ne_eq, fk_2 hk, fk_8 hk, fk_11 hk, fk_20 hk, fk_29 hk, fr_11_2_2 hr, fk_5 hk, fl_5 hl, en_69, k69_0, k69_1, k69_12, k69_13, k69_14, k69_17, k69_18, k69_19, k69_2, k69_22, k69_23, k69_24, k69_27, k69_3, k69_30, k69_31, k69_5, k69_6, k69_9, r_69, s_aaload, s_aload_n, s_goto, s_iadd, s_icmp_ge, s_iconst, s_iinc, s_iload_n, s_istore_n, sg_11_11, sg_11_2, sg_2_5, hC, nI_self_le]
  | succ k ih =>
    intro i hi
    have c1 : ¬ nI C ≤ nI i := nI_ge (show i < C by omega) (by omega)
    have hin : vp_in (nI i) 400 := vp_in_nI (by omega) (by decide)
    have hcl : (nI i).toNatClampNeg = i := nI_clamp (by omega)
    rw [WP_eq, k69_4]
    simp only [e_lI0, e_lR0, e_st0, e_lI1, e_lR1, e_st1, e_lI2, e_lR2, e_st2, e_lI3, e_lR3, e_st3, e_lI4, e_lR4, e_st4, e_lI5, e_lR5, e_st5, e_lI6, e_lR6, e_st6, e_lI7, e_lR7, e_st7, e_lI8, e_lR8, e_st8, e_swn, e_swc, e_sw0, e_sw1, e_sw2, e_sw3, e_sw4, e_sw5, e_sw6, e_sw7, e_sw8, e_sw9, Option.toList_some, Option.toList_none, List.cons_append, List.nil_append, List.length_cons, List.length_nil, Nat.reduceAdd, Nat.reduceLeDiff, Nat.zero_le, Nat.le_refl, true_and, and_true, WP_eq, Nat.reduceSub, if_true, if_false, Nat.reduceEqDiff, not_false_eq_true, i_10, i_01, Int32.reduceLT, Int32.reduceLE, true_or, or_true, ne_eq, fk_2 hk, fk_8 hk, fk_11 hk, fk_20 hk, fk_29 hk, fr_11_2_2 hr, fk_5 hk, fl_5 hl, en_69, k69_0, k69_1, k69_12, k69_13, k69_14, k69_17, k69_18, k69_19, k69_2, k69_22, k69_23, k69_24, k69_27, k69_3, k69_30, k69_31, k69_5, k69_6, k69_9, r_69, s_aaload, s_aload_n, s_goto, s_iadd, s_icmp_ge, s_iconst, s_iinc, s_iload_n, s_istore_n, sg_11_11, sg_11_2, sg_2_5, hC, c1, hin, hcl, hkd i (by omega)]
    rw [← WP_eq, nI_1, ← ih (i + 1) (by omega)]
    rfl
set_option maxRecDepth 100000 in
set_option maxHeartbeats 4000000 in
theorem L_doubles {d C : Nat} {n : Nat} {kd ln : Nat → Nat} {iv : Nat → Nat → Nat → Int32} {rv : Nat → Nat → Nat → Nat} {Q : Rt} (hk : FixK kd) (hl : FixL ln) (hr : FixR rv) (hC : iv 11 2 11 = nI C) (hC4 : C ≤ 400) (hkd : ∀ c, c < C → kd (rv 32 5 c) = 2) :
    MW (d + 1) 69 [.inr 2] ((n, kd, ln), iv, rv) Q = Q (some (.inl (bx_sum (fun c => iv 2 (rv 32 5 c) 5) C))) ((n, kd, ln), iv, rv) := by
  simp only [e_lI0, e_lR0, e_st0, e_lI1, e_lR1, e_st1, e_lI2, e_lR2, e_st2, e_lI3, e_lR3, e_st3, e_lI4, e_lR4, e_st4, e_lI5, e_lR5, e_st5, e_lI6, e_lR6, e_st6, e_lI7, e_lR7, e_st7, e_lI8, e_lR8, e_st8, e_swn, e_swc, e_sw0, e_sw1, e_sw2, e_sw3, e_sw4, e_sw5, e_sw6, e_sw7, e_sw8, e_sw9, Option.toList_some, Option.toList_none, List.cons_append, List.nil_append, List.length_cons, List.length_nil, Nat.reduceAdd, Nat.reduceLeDiff, Nat.zero_le, Nat.le_refl, true_and, and_true, WP_eq, Nat.reduceSub, if_true, if_false, Nat.reduceEqDiff, not_false_eq_true, i_10, i_01, Int32.reduceLT, Int32.reduceLE, true_or, or_true, ne_eq, fk_2 hk, fk_8 hk, fk_11 hk, fk_20 hk, fk_29 hk, fr_11_2_2 hr, fk_5 hk, fl_5 hl, en_69, k69_0, k69_1, k69_12, k69_13, k69_14, k69_17, k69_18, k69_19, k69_2, k69_22, k69_23, k69_24, k69_27, k69_3, k69_30, k69_31, k69_5, k69_6, k69_9, r_69, s_aaload, s_aload_n, s_goto, s_iadd, s_icmp_ge, s_iconst, s_iinc, s_iload_n, s_istore_n, sg_11_11, sg_11_2, sg_2_5]
  rw [← WP_eq]
  exact lp_doubles hk hl hr hC hC4 hkd C 0 (by omega)
