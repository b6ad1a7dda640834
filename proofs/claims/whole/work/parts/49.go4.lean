theorem MR.due {iv0 iv : Nat → Nat → Nat → Int32} {s : PS} {q : Fn × Fn} {t fr : Int32} (h : MR iv0 iv s q t fr) {P : Nat} {t' : Int32} : dueW iv P t' = dueW iv0 P t' := by
  unfold dueW
  rw [h.2.1 41 (by decide) (by decide) (by decide) (by decide) (by decide), h.2.1 42 (by decide) (by decide) (by decide) (by decide) (by decide), h.2.1 40 (by decide) (by decide) (by decide) (by decide) (by decide), h.2.1 47 (by decide) (by decide) (by decide) (by decide) (by decide), h.2.1 46 (by decide) (by decide) (by decide) (by decide) (by decide)]
set_option maxRecDepth 100000 in
set_option maxHeartbeats 4000000 in
theorem lp_poolM {d C Hn P : Nat} {t fr : Int32} {q : Fn × Fn} {n : Nat} {kd ln : Nat → Nat} {iv0 : Nat → Nat → Nat → Int32} {rv : Nat → Nat → Nat → Nat} {Q : Rt} {bc bs : Nat} (hk : FixK kd) (hl : FixL ln) (hr : FixR rv) (hG : GM C Hn P iv0) :
    ∀ k c s iv l2 l3, c + k = C → MR iv0 iv s q t fr → (∀ iv', MR iv0 iv' (pool (dueW iv0 P t) Hn k c s) q t fr → Q none ((n, kd, ln), iv', rv)) → WPc (MW (d + 3)) 103 Q 2 [some (.inr 29), some (.inl (nI c)), l2, l3] [] ((n, kd, ln), iv, rv) bc bs := by
  obtain ⟨gH, gH3, gC, gC4, gP, gP4, gq⟩ := hG
  intro k
  induction k with
  | zero =>
    intro c s iv l2 l3 hc hM hQ
    obtain rfl : c = C := by omega
    have hC' : iv 12 29 4 = nI c := by rw [hM.2.2.2.2.1 4 (by decide) (by decide)]; exact gC
    rw [WP_eq, k103_2]
    simp only [e_lI0, e_lR0, e_st0, e_lI1, e_lR1, e_st1, e_lI2, e_lR2, e_st2, e_lI3, e_lR3, e_st3, e_lI4, e_lR4, e_st4, e_lI5, e_lR5, e_st5, e_lI6, e_lR6, e_st6, e_lI7, e_lR7, e_st7, e_lI8, e_lR8, e_st8, e_swn, e_swc, e_sw0, e_sw1, e_sw2, e_sw3, e_sw4, e_sw5, e_sw6, e_sw7, e_sw8, e_sw9, Option.toList_some, Option.toList_none, List.cons_append, List.nil_append, List.length_cons, List.length_nil, Nat.reduceAdd, Nat.reduceLeDiff, Nat.zero_le, Nat.le_refl, true_and, and_true, WP_eq, Nat.reduceSub, if_true, if_false, Nat.reduceEqDiff, not_false_eq_true, i_10, i_01, Int32.reduceLT, Int32.reduceLE, true_or, or_true, ne_eq, fk_2 hk, fk_8 hk, fk_11 hk, fk_20 hk, fk_29 hk, fr_12_29_5 hr, fk_32 hk, fl_32 hl, fr_12_29_17 hr, fk_43 hk, fl_43 hl, en_103, c_87, c_95, k103_0, k103_1, k103_10, k103_11, k103_14, k103_15, k103_16, k103_19, k103_22, k103_23, k103_24, k103_25, k103_27, k103_28, k103_3, k103_31, k103_34, k103_35, k103_36, k103_39, k103_4, k103_42, k103_43, k103_44, k103_47, k103_48, k103_51, k103_52, k103_53, k103_54, k103_57, k103_58, k103_59, k103_62, k103_63, k103_64, k103_67, k103_7, k103_71, k103_72, k103_75, k103_76, k103_77, k103_78, k103_79, k103_82, k103_85, k103_88, s_aload_n, s_goto, s_iaload20, s_icmp_eq, s_icmp_ge, s_icmp_ne, s_iconst, s_if_eq, s_if_le, s_iinc, s_iload_n, s_istore_n, s_return, sg_12_11, sg_12_17, sg_12_4, sg_12_5, hC', nI_self_le]
    exact hQ iv hM
  | succ k ih =>
    intro c s iv l2 l3 hc hM hQ
    obtain ⟨m1, m2, ⟨m3, m4, m5⟩, ⟨m6, m7⟩, m8, m9, m10⟩ := id hM
    have hcC : c < C := by omega
    have hC' : iv 12 29 4 = nI C := by rw [m8 4 (by decide) (by decide)]; exact gC
    have hH' : iv 12 29 11 = nI Hn := by rw [m8 11 (by decide) (by decide)]; exact gH
    have hP' : iv 12 29 20 = nI P := by rw [m8 20 (by decide) (by decide)]; exact gP
    have hq' : ∀ i, i < Hn → (iv 20 41 i = -1 ↔ iv 20 42 i = -1) := by
      rw [m2 41 (by decide) (by decide) (by decide) (by decide) (by decide), m2 42 (by decide) (by decide) (by decide) (by decide) (by decide)]
      exact gq
    have c1 : ¬ nI C ≤ nI c := nI_ge hcC (by omega)
    have hin : vp_in (nI c) 400 := vp_in_nI (by omega) (by decide)
    have hcl : (nI c).toNatClampNeg = c := nI_clamp (by omega)
    rw [WP_eq, k103_2]
    by_cases c2 : s.1 c = 0
    · have hp : pool (dueW iv0 P t) Hn (k + 1) c s = (match bst (dueW iv0 P t) s.2.2 Hn with | none => s | some h => pool (dueW iv0 P t) Hn k (c + 1) (va_up s.1 c 1, va_up s.2.1 c (nI h), va_up s.2.2 h (s.2.2 h + 1))) := if_pos c2
      have e0 := lp_best (d := d) (x := nI c) (go := s.2.2) (Q := Q) (bc := bc) (bs := bs) (n := n) hk hl hr hH' gH3 hP' gP4 m9 hq' m5 Hn 0 (by omega)
      rw [hM.due] at e0
      have e00 : ruB (bst (dueW iv0 P t) s.2.2 0) = -1 := rfl
      rw [e00] at e0
      simp only [e_lI0, e_lR0, e_st0, e_lI1, e_lR1, e_st1, e_lI2, e_lR2, e_st2, e_lI3, e_lR3, e_st3, e_lI4, e_lR4, e_st4, e_lI5, e_lR5, e_st5, e_lI6, e_lR6, e_st6, e_lI7, e_lR7, e_st7, e_lI8, e_lR8, e_st8, e_swn, e_swc, e_sw0, e_sw1, e_sw2, e_sw3, e_sw4, e_sw5, e_sw6, e_sw7, e_sw8, e_sw9, Option.toList_some, Option.toList_none, List.cons_append, List.nil_append, List.length_cons, List.length_nil, Nat.reduceAdd, Nat.reduceLeDiff, Nat.zero_le, Nat.le_refl, true_and, and_true, WP_eq, Nat.reduceSub, if_true, if_false, Nat.reduceEqDiff, not_false_eq_true, i_10, i_01, Int32.reduceLT, Int32.reduceLE, true_or, or_true, ne_eq, fk_2 hk, fk_8 hk, fk_11 hk, fk_20 hk, fk_29 hk, fr_12_29_5 hr, fk_32 hk, fl_32 hl, fr_12_29_17 hr, fk_43 hk, fl_43 hl, en_103, c_87, c_95, k103_0, k103_1, k103_10, k103_11, k103_14, k103_15, k103_16, k103_19, k103_22, k103_23, k103_24, k103_25, k103_27, k103_28, k103_3, k103_31, k103_34, k103_35, k103_36, k103_39, k103_4, k103_42, k103_43, k103_44, k103_47, k103_48, k103_51, k103_52, k103_53, k103_54, k103_57, k103_58, k103_59, k103_62, k103_63, k103_64, k103_67, k103_7, k103_71, k103_72, k103_75, k103_76, k103_77, k103_78, k103_79, k103_82, k103_85, k103_88, s_aload_n, s_goto, s_iaload20, s_icmp_eq, s_icmp_ge, s_icmp_ne, s_iconst, s_if_eq, s_if_le, s_iinc, s_iload_n, s_istore_n, s_return, sg_12_11, sg_12_17, sg_12_4, sg_12_5, hC', c1, hin, hcl, m3, eq_true c2]
      rw [← WP_eq]
      refine Eq.mpr e0 ?_
      rw [WP_eq, k103_70]
      cases hb : bst (dueW iv0 P t) s.2.2 Hn with
      | none =>
        rw [hb] at hp
        have e1 : ruB none = -1 := rfl
        simp only [e_lI0, e_lR0, e_st0, e_lI1, e_lR1, e_st1, e_lI2, e_lR2, e_st2, e_lI3, e_lR3, e_st3, e_lI4, e_lR4, e_st4, e_lI5, e_lR5, e_st5, e_lI6, e_lR6, e_st6, e_lI7, e_lR7, e_st7, e_lI8, e_lR8, e_st8, e_swn, e_swc, e_sw0, e_sw1, e_sw2, e_sw3, e_sw4, e_sw5, e_sw6, e_sw7, e_sw8, e_sw9, Option.toList_some, Option.toList_none, List.cons_append, List.nil_append, List.length_cons, List.length_nil, Nat.reduceAdd, Nat.reduceLeDiff, Nat.zero_le, Nat.le_refl, true_and, and_true, WP_eq, Nat.reduceSub, if_true, if_false, Nat.reduceEqDiff, not_false_eq_true, i_10, i_01, Int32.reduceLT, Int32.reduceLE, true_or, or_true, ne_eq, fk_2 hk, fk_8 hk, fk_11 hk, fk_20 hk, fk_29 hk, fr_12_29_5 hr, fk_32 hk, fl_32 hl, fr_12_29_17 hr, fk_43 hk, fl_43 hl, en_103, c_87, c_95, k103_0, k103_1, k103_10, k103_11, k103_14, k103_15, k103_16, k103_19, k103_22, k103_23, k103_24, k103_25, k103_27, k103_28, k103_3, k103_31, k103_34, k103_35, k103_36, k103_39, k103_4, k103_42, k103_43, k103_44, k103_47, k103_48, k103_51, k103_52, k103_53, k103_54, k103_57, k103_58, k103_59, k103_62, k103_63, k103_64, k103_67, k103_7, k103_71, k103_72, k103_75, k103_76, k103_77, k103_78, k103_79, k103_82, k103_85, k103_88, s_aload_n, s_goto, s_iaload20, s_icmp_eq, s_icmp_ge, s_icmp_ne, s_iconst, s_if_eq, s_if_le, s_iinc, s_iload_n, s_istore_n, s_return, sg_12_11, sg_12_17, sg_12_4, sg_12_5, e1]
        exact hQ iv (by rw [hp]; exact hM)
      | some h =>
        rw [hb] at hp
        have hh := bst_lt Hn h hb
        have e1 : ruB (some h) = nI h := rfl
        have e2 : ¬ nI h = -1 := nI_m1 (by omega)
        have a3 : vp_in (nI h) 30 := vp_in_nI (by omega) (by decide)
        have a4 : (nI h).toNatClampNeg = h := nI_clamp (by omega)
        simp only [e_lI0, e_lR0, e_st0, e_lI1, e_lR1, e_st1, e_lI2, e_lR2, e_st2, e_lI3, e_lR3, e_st3, e_lI4, e_lR4, e_st4, e_lI5, e_lR5, e_st5, e_lI6, e_lR6, e_st6, e_lI7, e_lR7, e_st7, e_lI8, e_lR8, e_st8, e_swn, e_swc, e_sw0, e_sw1, e_sw2, e_sw3, e_sw4, e_sw5, e_sw6, e_sw7, e_sw8, e_sw9, Option.toList_some, Option.toList_none, List.cons_append, List.nil_append, List.length_cons, List.length_nil, Nat.reduceAdd, Nat.reduceLeDiff, Nat.zero_le, Nat.le_refl, true_and, and_true, WP_eq, Nat.reduceSub, if_true, if_false, Nat.reduceEqDiff, not_false_eq_true, i_10, i_01, Int32.reduceLT, Int32.reduceLE, true_or, or_true, ne_eq, fk_2 hk, fk_8 hk, fk_11 hk, fk_20 hk, fk_29 hk, fr_12_29_5 hr, fk_32 hk, fl_32 hl, fr_12_29_17 hr, fk_43 hk, fl_43 hl, fr_12_29_7 hr, fk_34 hk, fl_34 hl, en_103, c_87, c_95, k103_0, k103_1, k103_10, k103_11, k103_14, k103_15, k103_16, k103_19, k103_22, k103_23, k103_24, k103_25, k103_27, k103_28, k103_3, k103_31, k103_34, k103_35, k103_36, k103_39, k103_4, k103_42, k103_43, k103_44, k103_47, k103_48, k103_51, k103_52, k103_53, k103_54, k103_57, k103_58, k103_59, k103_62, k103_63, k103_64, k103_67, k103_7, k103_71, k103_72, k103_75, k103_76, k103_77, k103_78, k103_79, k103_82, k103_85, k103_88, s_aload_n, s_goto, s_iaload20, s_icmp_eq, s_icmp_ge, s_icmp_ne, s_iconst, s_if_eq, s_if_le, s_iinc, s_iload_n, s_istore_n, s_return, sg_12_11, sg_12_17, sg_12_4, sg_12_5, en_87, k87_0, k87_1, k87_11, k87_12, k87_13, k87_14, k87_15, k87_18, k87_19, k87_20, k87_21, k87_22, k87_23, k87_24, k87_4, k87_5, k87_6, k87_7, k87_8, s_dup2, s_iadd, s_iastore, sg_12_7, e1, e2, hin, hcl, a3, a4, Nat.add_left_cancel_iff, u3_d, eq_self, false_and, and_false, and_self, if_true, if_false, Nat.reduceEqDiff, m5]
        rw [← WP_eq, nI_1 c]
        refine ih (c + 1) (va_up s.1 c 1, va_up s.2.1 c (nI h), va_up s.2.2 h (s.2.2 h + 1)) _ _ _ (by omega) ⟨fun K q1 q2 => ?_, fun a a1 a2 a3 a4 a5 => ?_, ⟨?_, ?_, ?_⟩, ⟨?_, ?_⟩, ?_, ?_, ?_⟩ (fun iv' hW' => hQ iv' (by rw [hp]; exact hW'))
        · rw [u3_c q1, u3_c q1, u3_c q1]; exact m1 K q1 q2
        · rw [u3_a a3, u3_a a2, u3_a a1]; exact m2 a a1 a2 a3 a4 a5
        · rw [u3_a (by decide), u3_a (by decide), u3_f, m3]
        · rw [u3_a (by decide), u3_f, u3_a (by decide), m4]
        · rw [u3_f, u3_a (by decide), u3_a (by decide), m5]
        · rw [u3_a (by decide), u3_a (by decide), u3_a (by decide), m6]
        · rw [u3_a (by decide), u3_a (by decide), u3_a (by decide), m7]
        · rw [u3_c (by decide), u3_c (by decide), u3_c (by decide)]; exact m8
        · rw [u3_c (by decide), u3_c (by decide), u3_c (by decide)]; exact m9
        · rw [u3_c (by decide), u3_c (by decide), u3_c (by decide)]; exact m10
    · have hp : pool (dueW iv0 P t) Hn (k + 1) c s = pool (dueW iv0 P t) Hn k (c + 1) s := if_neg c2
      simp only [e_lI0, e_lR0, e_st0, e_lI1, e_lR1, e_st1, e_lI2, e_lR2, e_st2, e_lI3, e_lR3, e_st3, e_lI4, e_lR4, e_st4, e_lI5, e_lR5, e_st5, e_lI6, e_lR6, e_st6, e_lI7, e_lR7, e_st7, e_lI8, e_lR8, e_st8, e_swn, e_swc, e_sw0, e_sw1, e_sw2, e_sw3, e_sw4, e_sw5, e_sw6, e_sw7, e_sw8, e_sw9, Option.toList_some, Option.toList_none, List.cons_append, List.nil_append, List.length_cons, List.length_nil, Nat.reduceAdd, Nat.reduceLeDiff, Nat.zero_le, Nat.le_refl, true_and, and_true, WP_eq, Nat.reduceSub, if_true, if_false, Nat.reduceEqDiff, not_false_eq_true, i_10, i_01, Int32.reduceLT, Int32.reduceLE, true_or, or_true, ne_eq, fk_2 hk, fk_8 hk, fk_11 hk, fk_20 hk, fk_29 hk, fr_12_29_5 hr, fk_32 hk, fl_32 hl, fr_12_29_17 hr, fk_43 hk, fl_43 hl, en_103, c_87, c_95, k103_0, k103_1, k103_10, k103_11, k103_14, k103_15, k103_16, k103_19, k103_22, k103_23, k103_24, k103_25, k103_27, k103_28, k103_3, k103_31, k103_34, k103_35, k103_36, k103_39, k103_4, k103_42, k103_43, k103_44, k103_47, k103_48, k103_51, k103_52, k103_53, k103_54, k103_57, k103_58, k103_59, k103_62, k103_63, k103_64, k103_67, k103_7, k103_71, k103_72, k103_75, k103_76, k103_77, k103_78, k103_79, k103_82, k103_85, k103_88, s_aload_n, s_goto, s_iaload20, s_icmp_eq, s_icmp_ge, s_icmp_ne, s_iconst, s_if_eq, s_if_le, s_iinc, s_iload_n, s_istore_n, s_return, sg_12_11, sg_12_17, sg_12_4, sg_12_5, hC', c1, hin, hcl, m3, eq_false c2]
      rw [← WP_eq, nI_1]
      exact ih (c + 1) s iv _ _ (by omega) hM (fun iv' hW' => hQ iv' (by rw [hp]; exact hW'))
set_option maxRecDepth 100000 in
set_option maxHeartbeats 4000000 in
theorem lp_kitsM {d : Nat} {m i t fr : Int32} {s : PS} {q : Fn × Fn} {n : Nat} {kd ln : Nat → Nat} {iv0 : Nat → Nat → Nat → Int32} {rv : Nat → Nat → Nat → Nat} {Q : Rt} {bc bs : Nat} (hk : FixK kd) (hl : FixL ln) (hr : FixR rv) (hQ : ∀ iv' l3, MR iv0 iv' s (kit q 6) t fr → WPc (MW d) 102 Q 65 [some (.inr 29), some (.inl m), some (.inl i), l3] [] ((n, kd, ln), iv', rv) bc bs) :
    ∀ k w iv, w + k = 6 → MR iv0 iv s (kit q w) t fr → WPc (MW d) 102 Q 31 [some (.inr 29), some (.inl m), some (.inl i), some (.inl (nI w))] [] ((n, kd, ln), iv, rv) bc bs := by
  intro k
  induction k with
  | zero =>
    intro w iv hw hM
    obtain rfl : w = 6 := by omega
    have c1 : (6 : Int32) ≤ nI 6 := by decide
    rw [WP_eq, k102_31]
    simp only [e_lI0, e_lR0, e_st0, e_lI1, e_lR1, e_st1, e_lI2, e_lR2, e_st2, e_lI3, e_lR3, e_st3, e_lI4, e_lR4, e_st4, e_lI5, e_lR5, e_st5, e_lI6, e_lR6, e_st6, e_lI7, e_lR7, e_st7, e_lI8, e_lR8, e_st8, e_swn, e_swc, e_sw0, e_sw1, e_sw2, e_sw3, e_sw4, e_sw5, e_sw6, e_sw7, e_sw8, e_sw9, Option.toList_some, Option.toList_none, List.cons_append, List.nil_append, List.length_cons, List.length_nil, Nat.reduceAdd, Nat.reduceLeDiff, Nat.zero_le, Nat.le_refl, true_and, and_true, WP_eq, Nat.reduceSub, if_true, if_false, Nat.reduceEqDiff, not_false_eq_true, i_10, i_01, Int32.reduceLT, Int32.reduceLE, true_or, or_true, ne_eq, fk_2 hk, fk_8 hk, fk_11 hk, fk_20 hk, fk_29 hk, fr_12_29_30 hr, fk_50 hk, fl_50 hl, fr_12_29_29 hr, fk_49 hk, fl_49 hl, en_102, c_103, c_79, k102_0, k102_1, k102_10, k102_100, k102_101, k102_104, k102_11, k102_12, k102_13, k102_15, k102_16, k102_19, k102_2, k102_20, k102_23, k102_26, k102_29, k102_30, k102_32, k102_34, k102_37, k102_38, k102_4, k102_41, k102_42, k102_43, k102_44, k102_45, k102_48, k102_49, k102_50, k102_51, k102_52, k102_53, k102_56, k102_57, k102_58, k102_59, k102_62, k102_66, k102_69, k102_7, k102_70, k102_71, k102_72, k102_75, k102_76, k102_79, k102_80, k102_81, k102_84, k102_85, k102_86, k102_89, k102_90, k102_91, k102_94, k102_97, r_102, s_aload_n, s_bipush, s_dup, s_dup2, s_goto, s_iadd, s_iaload20, s_iastore, s_icmp_ge, s_icmp_ne, s_iconst, s_if_ne, s_iinc, s_iload_n, s_irem, s_istore_n, s_sipush, sg_12_0, sg_12_29, sg_12_30, sp_12_0, sp_12_32, c1]
    rw [← WP_eq]
    exact hQ iv _ hM
  | succ k ih =>
    intro w iv hw hM
    have hw6 : w < 6 := by omega
    have c1 : ¬ (6 : Int32) ≤ nI w := nI_ge hw6 (by decide)
    have hin : vp_in (nI w) 6 := vp_in_nI hw6 (by decide)
    have hcl : (nI w).toNatClampNeg = w := nI_clamp (by omega)
    obtain ⟨m1, m2, ⟨m3, m4, m5⟩, ⟨m6, m7⟩, m8, m9, m10⟩ := id hM
    rw [WP_eq, k102_31]
    simp only [e_lI0, e_lR0, e_st0, e_lI1, e_lR1, e_st1, e_lI2, e_lR2, e_st2, e_lI3, e_lR3, e_st3, e_lI4, e_lR4, e_st4, e_lI5, e_lR5, e_st5, e_lI6, e_lR6, e_st6, e_lI7, e_lR7, e_st7, e_lI8, e_lR8, e_st8, e_swn, e_swc, e_sw0, e_sw1, e_sw2, e_sw3, e_sw4, e_sw5, e_sw6, e_sw7, e_sw8, e_sw9, Option.toList_some, Option.toList_none, List.cons_append, List.nil_append, List.length_cons, List.length_nil, Nat.reduceAdd, Nat.reduceLeDiff, Nat.zero_le, Nat.le_refl, true_and, and_true, WP_eq, Nat.reduceSub, if_true, if_false, Nat.reduceEqDiff, not_false_eq_true, i_10, i_01, Int32.reduceLT, Int32.reduceLE, true_or, or_true, ne_eq, fk_2 hk, fk_8 hk, fk_11 hk, fk_20 hk, fk_29 hk, fr_12_29_30 hr, fk_50 hk, fl_50 hl, fr_12_29_29 hr, fk_49 hk, fl_49 hl, en_102, c_103, c_79, k102_0, k102_1, k102_10, k102_100, k102_101, k102_104, k102_11, k102_12, k102_13, k102_15, k102_16, k102_19, k102_2, k102_20, k102_23, k102_26, k102_29, k102_30, k102_32, k102_34, k102_37, k102_38, k102_4, k102_41, k102_42, k102_43, k102_44, k102_45, k102_48, k102_49, k102_50, k102_51, k102_52, k102_53, k102_56, k102_57, k102_58, k102_59, k102_62, k102_66, k102_69, k102_7, k102_70, k102_71, k102_72, k102_75, k102_76, k102_79, k102_80, k102_81, k102_84, k102_85, k102_86, k102_89, k102_90, k102_91, k102_94, k102_97, r_102, s_aload_n, s_bipush, s_dup, s_dup2, s_goto, s_iadd, s_iaload20, s_iastore, s_icmp_ge, s_icmp_ne, s_iconst, s_if_ne, s_iinc, s_iload_n, s_irem, s_istore_n, s_sipush, sg_12_0, sg_12_29, sg_12_30, sp_12_0, sp_12_32, c1, hin, hcl, Nat.add_left_cancel_iff, u3_d, eq_self, false_and, and_false, and_self, if_true, if_false, Nat.reduceEqDiff, m6, m7]
    rw [← WP_eq, nI_1]
    have ek : kit q (w + 1) = (va_up (kit q w).1 w 0, va_up (kit q w).2 w ((kit q w).2 w + (kit q w).1 w)) := rfl
    refine ih (w + 1) _ (by omega) ⟨fun K q1 q2 => ?_, fun a a1 a2 a3 a4 a5 => ?_, ⟨?_, ?_, ?_⟩, ⟨?_, ?_⟩, ?_, ?_, ?_⟩
    · rw [u3_c q1, u3_c q1]; exact m1 K q1 q2
    · rw [u3_a a4, u3_a a5]; exact m2 a a1 a2 a3 a4 a5
    · rw [u3_a (by decide), u3_a (by decide), m3]
    · rw [u3_a (by decide), u3_a (by decide), m4]
    · rw [u3_a (by decide), u3_a (by decide), m5]
    · rw [u3_f, u3_a (by decide), m6, ek]
    · rw [u3_a (by decide), u3_f, m7, ek]
    · rw [u3_c (by decide), u3_c (by decide)]; exact m8
    · rw [u3_c (by decide), u3_c (by decide)]; exact m9
    · rw [u3_c (by decide), u3_c (by decide)]; exact m10
set_option maxRecDepth 100000 in
set_option maxHeartbeats 4000000 in
theorem lp_goM {d C Hn P m : Nat} (hm : m ≤ 60) {n : Nat} {kd ln : Nat → Nat} {iv0 : Nat → Nat → Nat → Int32} {rv : Nat → Nat → Nat → Nat} {Q : Rt} {bc bs : Nat} (hk : FixK kd) (hl : FixL ln) (hr : FixR rv) (hG : GM C Hn P iv0) :
    ∀ k i T s q fr iv l3, i + k = m → T ≤ 1040 → MR iv0 iv s q (nI T) fr → (∀ iv' T' s' q' fr', wks (wkP iv0 C Hn P) k T s q fr = (T', s', q', fr') → MR iv0 iv' s' q' (nI T') fr' → Q (some (.inl (nI T'))) ((n, kd, ln), iv', rv)) → WPc (MW (d + 4)) 102 Q 14 [some (.inr 29), some (.inl (nI m)), some (.inl (nI i)), l3] [] ((n, kd, ln), iv, rv) bc bs := by
  intro k
  induction k with
  | zero =>
    intro i T s q fr iv l3 hi hT hM hQ
    obtain rfl : i = m := by omega
    have m9 := hM.2.2.2.2.2.1
    rw [WP_eq, k102_14]
    simp only [e_lI0, e_lR0, e_st0, e_lI1, e_lR1, e_st1, e_lI2, e_lR2, e_st2, e_lI3, e_lR3, e_st3, e_lI4, e_lR4, e_st4, e_lI5, e_lR5, e_st5, e_lI6, e_lR6, e_st6, e_lI7, e_lR7, e_st7, e_lI8, e_lR8, e_st8, e_swn, e_swc, e_sw0, e_sw1, e_sw2, e_sw3, e_sw4, e_sw5, e_sw6, e_sw7, e_sw8, e_sw9, Option.toList_some, Option.toList_none, List.cons_append, List.nil_append, List.length_cons, List.length_nil, Nat.reduceAdd, Nat.reduceLeDiff, Nat.zero_le, Nat.le_refl, true_and, and_true, WP_eq, Nat.reduceSub, if_true, if_false, Nat.reduceEqDiff, not_false_eq_true, i_10, i_01, Int32.reduceLT, Int32.reduceLE, true_or, or_true, ne_eq, fk_2 hk, fk_8 hk, fk_11 hk, fk_20 hk, fk_29 hk, fr_12_29_30 hr, fk_50 hk, fl_50 hl, fr_12_29_29 hr, fk_49 hk, fl_49 hl, en_102, c_103, c_79, k102_0, k102_1, k102_10, k102_100, k102_101, k102_104, k102_11, k102_12, k102_13, k102_15, k102_16, k102_19, k102_2, k102_20, k102_23, k102_26, k102_29, k102_30, k102_32, k102_34, k102_37, k102_38, k102_4, k102_41, k102_42, k102_43, k102_44, k102_45, k102_48, k102_49, k102_50, k102_51, k102_52, k102_53, k102_56, k102_57, k102_58, k102_59, k102_62, k102_66, k102_69, k102_7, k102_70, k102_71, k102_72, k102_75, k102_76, k102_79, k102_80, k102_81, k102_84, k102_85, k102_86, k102_89, k102_90, k102_91, k102_94, k102_97, r_102, s_aload_n, s_bipush, s_dup, s_dup2, s_goto, s_iadd, s_iaload20, s_iastore, s_icmp_ge, s_icmp_ne, s_iconst, s_if_ne, s_iinc, s_iload_n, s_irem, s_istore_n, s_sipush, sg_12_0, sg_12_29, sg_12_30, sp_12_0, sp_12_32, nI_self_le, m9]
    exact hQ iv T s q fr rfl hM
  | succ k ih =>
    intro i T s q fr iv l3 hi hT hM hQ
    have m9 := hM.2.2.2.2.2.1
    have c1 : ¬ nI m ≤ nI i := nI_ge (show i < m by omega) (by omega)
    rw [WP_eq, k102_14]
    rcases Nat.lt_or_ge T 1040 with c | c
    · have c2 : ¬ (1040 : Int32) ≤ nI T := nI_ge c (by decide)
      have i4 : ¬ (4 : Int32) = 0 := by decide
      have e : wks (wkP iv0 C Hn P) (k + 1) T s q fr = wks (wkP iv0 C Hn P) k (T + 1) (wkP iv0 C Hn P T s) (kit q 6) 0 := if_pos c
      simp only [e_lI0, e_lR0, e_st0, e_lI1, e_lR1, e_st1, e_lI2, e_lR2, e_st2, e_lI3, e_lR3, e_st3, e_lI4, e_lR4, e_st4, e_lI5, e_lR5, e_st5, e_lI6, e_lR6, e_st6, e_lI7, e_lR7, e_st7, e_lI8, e_lR8, e_st8, e_swn, e_swc, e_sw0, e_sw1, e_sw2, e_sw3, e_sw4, e_sw5, e_sw6, e_sw7, e_sw8, e_sw9, Option.toList_some, Option.toList_none, List.cons_append, List.nil_append, List.length_cons, List.length_nil, Nat.reduceAdd, Nat.reduceLeDiff, Nat.zero_le, Nat.le_refl, true_and, and_true, WP_eq, Nat.reduceSub, if_true, if_false, Nat.reduceEqDiff, not_false_eq_true, i_10, i_01, Int32.reduceLT, Int32.reduceLE, true_or, or_true, ne_eq, fk_2 hk, fk_8 hk, fk_11 hk, fk_20 hk, fk_29 hk, fr_12_29_30 hr, fk_50 hk, fl_50 hl, fr_12_29_29 hr, fk_49 hk, fl_49 hl, en_102, c_103, c_79, k102_0, k102_1, k102_10, k102_100, k102_101, k102_104, k102_11, k102_12, k102_13, k102_15, k102_16, k102_19, k102_2, k102_20, k102_23, k102_26, k102_29, k102_30, k102_32, k102_34, k102_37, k102_38, k102_4, k102_41, k102_42, k102_43, k102_44, k102_45, k102_48, k102_49, k102_50, k102_51, k102_52, k102_53, k102_56, k102_57, k102_58, k102_59, k102_62, k102_66, k102_69, k102_7, k102_70, k102_71, k102_72, k102_75, k102_76, k102_79, k102_80, k102_81, k102_84, k102_85, k102_86, k102_89, k102_90, k102_91, k102_94, k102_97, r_102, s_aload_n, s_bipush, s_dup, s_dup2, s_goto, s_iadd, s_iaload20, s_iastore, s_icmp_ge, s_icmp_ne, s_iconst, s_if_ne, s_iinc, s_iload_n, s_irem, s_istore_n, s_sipush, sg_12_0, sg_12_29, sg_12_30, sp_12_0, sp_12_32, c1, m9, c2]
      rw [← WP_eq]
      refine lp_kitsM hk hl hr (fun iv1 l3' h1 => ?_) 6 0 iv (by omega) hM
      have fin : ∀ iv2 l3', MR iv0 iv2 (wkP iv0 C Hn P T s) (kit q 6) (nI T) fr → WPc (MW (d + 4)) 102 Q 14 [some (.inr 29), some (.inl (nI m)), some (.inl (nI (i + 1))), l3'] [] ((n, kd, ln), u3 (u3 iv2 12 29 32 0) 12 29 0 (nI T + 1), rv) bc bs := fun iv2 l3' h2 => by
        obtain ⟨m1, m2, m3, m6, m8, m9, m10⟩ := id h2
        refine ih (i + 1) (T + 1) (wkP iv0 C Hn P T s) (kit q 6) 0 _ _ (by omega) (by omega) ⟨fun K q1 q2 => ?_, ?_, ?_, ?_, fun j j1 j2 => ?_, ?_, ?_⟩ (fun iv2 T' s' q' fr' he h2 => hQ iv2 T' s' q' fr' (by rw [e]; exact he) h2)
        · rw [u3_c q2, u3_c q2]; exact m1 K q1 q2
        · rw [u3_c (by decide), u3_c (by decide)]; exact m2
        · rw [u3_c (by decide), u3_c (by decide)]; exact m3
        · rw [u3_c (by decide), u3_c (by decide)]; exact m6
        · rw [u3_j j1, u3_j j2]; exact m8 j j1 j2
        · rw [u3_s, nI_1]
        · rw [u3_j (by decide), u3_s]
      have m9' := h1.2.2.2.2.2.1
      rw [WP_eq, k102_65]
      by_cases c4 : rmd (nI T) 4 = 3
      · simp only [e_lI0, e_lR0, e_st0, e_lI1, e_lR1, e_st1, e_lI2, e_lR2, e_st2, e_lI3, e_lR3, e_st3, e_lI4, e_lR4, e_st4, e_lI5, e_lR5, e_st5, e_lI6, e_lR6, e_st6, e_lI7, e_lR7, e_st7, e_lI8, e_lR8, e_st8, e_swn, e_swc, e_sw0, e_sw1, e_sw2, e_sw3, e_sw4, e_sw5, e_sw6, e_sw7, e_sw8, e_sw9, Option.toList_some, Option.toList_none, List.cons_append, List.nil_append, List.length_cons, List.length_nil, Nat.reduceAdd, Nat.reduceLeDiff, Nat.zero_le, Nat.le_refl, true_and, and_true, WP_eq, Nat.reduceSub, if_true, if_false, Nat.reduceEqDiff, not_false_eq_true, i_10, i_01, Int32.reduceLT, Int32.reduceLE, true_or, or_true, ne_eq, fk_2 hk, fk_8 hk, fk_11 hk, fk_20 hk, fk_29 hk, fr_12_29_30 hr, fk_50 hk, fl_50 hl, fr_12_29_29 hr, fk_49 hk, fl_49 hl, en_102, c_103, c_79, k102_0, k102_1, k102_10, k102_100, k102_101, k102_104, k102_11, k102_12, k102_13, k102_15, k102_16, k102_19, k102_2, k102_20, k102_23, k102_26, k102_29, k102_30, k102_32, k102_34, k102_37, k102_38, k102_4, k102_41, k102_42, k102_43, k102_44, k102_45, k102_48, k102_49, k102_50, k102_51, k102_52, k102_53, k102_56, k102_57, k102_58, k102_59, k102_62, k102_66, k102_69, k102_7, k102_70, k102_71, k102_72, k102_75, k102_76, k102_79, k102_80, k102_81, k102_84, k102_85, k102_86, k102_89, k102_90, k102_91, k102_94, k102_97, r_102, s_aload_n, s_bipush, s_dup, s_dup2, s_goto, s_iadd, s_iaload20, s_iastore, s_icmp_ge, s_icmp_ne, s_iconst, s_if_ne, s_iinc, s_iload_n, s_irem, s_istore_n, s_sipush, sg_12_0, sg_12_29, sg_12_30, sp_12_0, sp_12_32, m9', i4, eq_true c4]
        have hp : MW (d + 4) 103 [.inr 29] ((n, kd, ln), iv1, rv) (fun v h' => v = none ∧ ∃ iv2, h' = ((n, kd, ln), iv2, rv) ∧ MR iv0 iv2 (wkP iv0 C Hn P T s) (kit q 6) (nI T) fr) := by
          simp only [e_lI0, e_lR0, e_st0, e_lI1, e_lR1, e_st1, e_lI2, e_lR2, e_st2, e_lI3, e_lR3, e_st3, e_lI4, e_lR4, e_st4, e_lI5, e_lR5, e_st5, e_lI6, e_lR6, e_st6, e_lI7, e_lR7, e_st7, e_lI8, e_lR8, e_st8, e_swn, e_swc, e_sw0, e_sw1, e_sw2, e_sw3, e_sw4, e_sw5, e_sw6, e_sw7, e_sw8, e_sw9, Option.toList_some, Option.toList_none, List.cons_append, List.nil_append, List.length_cons, List.length_nil, Nat.reduceAdd, Nat.reduceLeDiff, Nat.zero_le, Nat.le_refl, true_and, and_true, WP_eq, Nat.reduceSub, if_true, if_false, Nat.reduceEqDiff, not_false_eq_true, i_10, i_01, Int32.reduceLT, Int32.reduceLE, true_or, or_true, ne_eq, fk_2 hk, fk_8 hk, fk_11 hk, fk_20 hk, fk_29 hk, fr_12_29_5 hr, fk_32 hk, fl_32 hl, fr_12_29_17 hr, fk_43 hk, fl_43 hl, en_103, c_87, c_95, k103_0, k103_1, k103_10, k103_11, k103_14, k103_15, k103_16, k103_19, k103_22, k103_23, k103_24, k103_25, k103_27, k103_28, k103_3, k103_31, k103_34, k103_35, k103_36, k103_39, k103_4, k103_42, k103_43, k103_44, k103_47, k103_48, k103_51, k103_52, k103_53, k103_54, k103_57, k103_58, k103_59, k103_62, k103_63, k103_64, k103_67, k103_7, k103_71, k103_72, k103_75, k103_76, k103_77, k103_78, k103_79, k103_82, k103_85, k103_88, s_aload_n, s_goto, s_iaload20, s_icmp_eq, s_icmp_ge, s_icmp_ne, s_iconst, s_if_eq, s_if_le, s_iinc, s_iload_n, s_istore_n, s_return, sg_12_11, sg_12_17, sg_12_4, sg_12_5]
          rw [← WP_eq]
          refine lp_poolM hk hl hr hG C 0 s iv1 _ _ (by omega) h1 (fun iv2 h2 => ⟨rfl, iv2, rfl, ?_⟩)
          unfold wkP
          rw [if_pos c4]
          exact h2
        refine MW_ceM (d + 4) _ _ _ _ _ ?_ hp
        rintro v h' ⟨rfl, iv2, rfl, h2⟩
        have m9' := h2.2.2.2.2.2.1
        simp only [e_lI0, e_lR0, e_st0, e_lI1, e_lR1, e_st1, e_lI2, e_lR2, e_st2, e_lI3, e_lR3, e_st3, e_lI4, e_lR4, e_st4, e_lI5, e_lR5, e_st5, e_lI6, e_lR6, e_st6, e_lI7, e_lR7, e_st7, e_lI8, e_lR8, e_st8, e_swn, e_swc, e_sw0, e_sw1, e_sw2, e_sw3, e_sw4, e_sw5, e_sw6, e_sw7, e_sw8, e_sw9, Option.toList_some, Option.toList_none, List.cons_append, List.nil_append, List.length_cons, List.length_nil, Nat.reduceAdd, Nat.reduceLeDiff, Nat.zero_le, Nat.le_refl, true_and, and_true, WP_eq, Nat.reduceSub, if_true, if_false, Nat.reduceEqDiff, not_false_eq_true, i_10, i_01, Int32.reduceLT, Int32.reduceLE, true_or, or_true, ne_eq, fk_2 hk, fk_8 hk, fk_11 hk, fk_20 hk, fk_29 hk, fr_12_29_30 hr, fk_50 hk, fl_50 hl, fr_12_29_29 hr, fk_49 hk, fl_49 hl, en_102, c_103, c_79, k102_0, k102_1, k102_10, k102_100, k102_101, k102_104, k102_11, k102_12, k102_13, k102_15, k102_16, k102_19, k102_2, k102_20, k102_23, k102_26, k102_29, k102_30, k102_32, k102_34, k102_37, k102_38, k102_4, k102_41, k102_42, k102_43, k102_44, k102_45, k102_48, k102_49, k102_50, k102_51, k102_52, k102_53, k102_56, k102_57, k102_58, k102_59, k102_62, k102_66, k102_69, k102_7, k102_70, k102_71, k102_72, k102_75, k102_76, k102_79, k102_80, k102_81, k102_84, k102_85, k102_86, k102_89, k102_90, k102_91, k102_94, k102_97, r_102, s_aload_n, s_bipush, s_dup, s_dup2, s_goto, s_iadd, s_iaload20, s_iastore, s_icmp_ge, s_icmp_ne, s_iconst, s_if_ne, s_iinc, s_iload_n, s_irem, s_istore_n, s_sipush, sg_12_0, sg_12_29, sg_12_30, sp_12_0, sp_12_32, Nat.add_left_cancel_iff, u3_d, eq_self, false_and, and_false, and_self, if_true, if_false, Nat.reduceEqDiff, m9']
        rw [← WP_eq, nI_1 i]
        exact fin iv2 _ h2
      · simp only [e_lI0, e_lR0, e_st0, e_lI1, e_lR1, e_st1, e_lI2, e_lR2, e_st2, e_lI3, e_lR3, e_st3, e_lI4, e_lR4, e_st4, e_lI5, e_lR5, e_st5, e_lI6, e_lR6, e_st6, e_lI7, e_lR7, e_st7, e_lI8, e_lR8, e_st8, e_swn, e_swc, e_sw0, e_sw1, e_sw2, e_sw3, e_sw4, e_sw5, e_sw6, e_sw7, e_sw8, e_sw9, Option.toList_some, Option.toList_none, List.cons_append, List.nil_append, List.length_cons, List.length_nil, Nat.reduceAdd, Nat.reduceLeDiff, Nat.zero_le, Nat.le_refl, true_and, and_true, WP_eq, Nat.reduceSub, if_true, if_false, Nat.reduceEqDiff, not_false_eq_true, i_10, i_01, Int32.reduceLT, Int32.reduceLE, true_or, or_true, ne_eq, fk_2 hk, fk_8 hk, fk_11 hk, fk_20 hk, fk_29 hk, fr_12_29_30 hr, fk_50 hk, fl_50 hl, fr_12_29_29 hr, fk_49 hk, fl_49 hl, en_102, c_103, c_79, k102_0, k102_1, k102_10, k102_100, k102_101, k102_104, k102_11, k102_12, k102_13, k102_15, k102_16, k102_19, k102_2, k102_20, k102_23, k102_26, k102_29, k102_30, k102_32, k102_34, k102_37, k102_38, k102_4, k102_41, k102_42, k102_43, k102_44, k102_45, k102_48, k102_49, k102_50, k102_51, k102_52, k102_53, k102_56, k102_57, k102_58, k102_59, k102_62, k102_66, k102_69, k102_7, k102_70, k102_71, k102_72, k102_75, k102_76, k102_79, k102_80, k102_81, k102_84, k102_85, k102_86, k102_89, k102_90, k102_91, k102_94, k102_97, r_102, s_aload_n, s_bipush, s_dup, s_dup2, s_goto, s_iadd, s_iaload20, s_iastore, s_icmp_ge, s_icmp_ne, s_iconst, s_if_ne, s_iinc, s_iload_n, s_irem, s_istore_n, s_sipush, sg_12_0, sg_12_29, sg_12_30, sp_12_0, sp_12_32, m9', i4, eq_false c4, Nat.add_left_cancel_iff, u3_d, eq_self, false_and, and_false, and_self, if_true, if_false, Nat.reduceEqDiff]
        rw [← WP_eq, nI_1 i]
        refine fin iv1 _ ?_
        unfold wkP
        rw [if_neg c4]
        exact h1
    · obtain rfl : T = 1040 := by omega
      have c2 : (1040 : Int32) ≤ nI 1040 := by decide
      have e : wks (wkP iv0 C Hn P) (k + 1) 1040 s q fr = (1040, s, q, fr) := if_neg (by decide)
      simp only [e_lI0, e_lR0, e_st0, e_lI1, e_lR1, e_st1, e_lI2, e_lR2, e_st2, e_lI3, e_lR3, e_st3, e_lI4, e_lR4, e_st4, e_lI5, e_lR5, e_st5, e_lI6, e_lR6, e_st6, e_lI7, e_lR7, e_st7, e_lI8, e_lR8, e_st8, e_swn, e_swc, e_sw0, e_sw1, e_sw2, e_sw3, e_sw4, e_sw5, e_sw6, e_sw7, e_sw8, e_sw9, Option.toList_some, Option.toList_none, List.cons_append, List.nil_append, List.length_cons, List.length_nil, Nat.reduceAdd, Nat.reduceLeDiff, Nat.zero_le, Nat.le_refl, true_and, and_true, WP_eq, Nat.reduceSub, if_true, if_false, Nat.reduceEqDiff, not_false_eq_true, i_10, i_01, Int32.reduceLT, Int32.reduceLE, true_or, or_true, ne_eq, fk_2 hk, fk_8 hk, fk_11 hk, fk_20 hk, fk_29 hk, fr_12_29_30 hr, fk_50 hk, fl_50 hl, fr_12_29_29 hr, fk_49 hk, fl_49 hl, en_102, c_103, c_79, k102_0, k102_1, k102_10, k102_100, k102_101, k102_104, k102_11, k102_12, k102_13, k102_15, k102_16, k102_19, k102_2, k102_20, k102_23, k102_26, k102_29, k102_30, k102_32, k102_34, k102_37, k102_38, k102_4, k102_41, k102_42, k102_43, k102_44, k102_45, k102_48, k102_49, k102_50, k102_51, k102_52, k102_53, k102_56, k102_57, k102_58, k102_59, k102_62, k102_66, k102_69, k102_7, k102_70, k102_71, k102_72, k102_75, k102_76, k102_79, k102_80, k102_81, k102_84, k102_85, k102_86, k102_89, k102_90, k102_91, k102_94, k102_97, r_102, s_aload_n, s_bipush, s_dup, s_dup2, s_goto, s_iadd, s_iaload20, s_iastore, s_icmp_ge, s_icmp_ne, s_iconst, s_if_ne, s_iinc, s_iload_n, s_irem, s_istore_n, s_sipush, sg_12_0, sg_12_29, sg_12_30, sp_12_0, sp_12_32, c1, m9, c2]
      exact hQ iv 1040 s q fr e hM
