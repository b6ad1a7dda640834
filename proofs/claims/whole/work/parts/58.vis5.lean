theorem cp3_c {f : Nat → Nat → Nat → Int32} {a0 s a d n K : Nat} (h : K ≠ 20) : cp3 f a0 s a d n K = f K := by
  funext b j
  exact if_neg (fun z => h z.1)
theorem cp3_a {f : Nat → Nat → Nat → Int32} {a0 s a d n b : Nat} (h : b ≠ a) : cp3 f a0 s a d n 20 b = f 20 b := by
  funext j
  exact if_neg (fun z => h z.2)
theorem cp3_in {f : Nat → Nat → Nat → Int32} {a0 a n j : Nat} (h : j < n) : cp3 f a0 0 a 0 n 20 a j = f 20 a0 j := by
  unfold cp3
  rw [if_pos ⟨rfl, rfl⟩, pk_cpy_in (by omega) (by omega), Nat.zero_add, Nat.sub_zero]
set_option maxRecDepth 100000 in
set_option maxHeartbeats 4000000 in
theorem M_try {d V u N M : Nat} {vw : Fn} {w : Int32} {many hp vp vn : Nat → Nat} {n : Nat} {kd ln : Nat → Nat} {iv0 : Nat → Nat → Nat → Int32} {rv : Nat → Nat → Nat → Nat} (hk : FixK kd) (hl : FixL ln) (hr : FixR rv) (hS : SF V vw w many hp vp u N M vn iv0) :
    ∀ k a p iv (Q : Rt), a + k = N → GP V vw w many u a p → TS V vw w many (fun k v => dst (hp k) (vp v)) u N M vn iv0 iv a p (p * (V + 1) ^ k) → (∀ iv', TS V vw w many (fun k v => dst (hp k) (vp v)) u N M vn iv0 iv' a p ((p + 1) * (V + 1) ^ k) → Q none ((n, kd, ln), iv', rv)) → MW (d + k + 2) 22 [.inr 11, .inl (nI a), .inl (nI (fA V (fun k v => dst (hp k) (vp v)) a p a)), .inl (nI (u - cN (V + 1) a p V a))] ((n, kd, ln), iv, rv) Q := by
  obtain ⟨⟨sN, sM, sN6, sM4, sV4, su⟩, sVN, sm8, s17, svp, s13, s16⟩ := id hS
  intro k
  induction k with
  | zero =>
    intro a p iv Q ha hG hT hQ
    obtain rfl : a = N := by omega
    obtain ⟨hF, hr1, hc1, bs', hb1, hB⟩ := id hT
    have hfb : fA V (fun k v => dst (hp k) (vp v)) a p a ≤ 99 * a := fA_bd (Nat.le_refl a) (fun k' v' h1 h2 => dst_bd (s13 k' (by omega)).2 (svp v' h2))
    have fN : iv 6 11 8 = nI a := by rw [hF.2.2 8 (by decide)]; exact sN
    rw [Nat.pow_zero, Nat.mul_one] at hB hQ
    have hself : ¬ nI a < nI a := nI_nlt (Nat.le_refl _) (by omega)
    simp only [e_lI0, e_lR0, e_st0, e_lI1, e_lR1, e_st1, e_lI2, e_lR2, e_st2, e_lI3, e_lR3, e_st3, e_lI4, e_lR4, e_st4, e_lI5, e_lR5, e_st5, e_lI6, e_lR6, e_st6, e_lI7, e_lR7, e_st7, e_lI8, e_lR8, e_st8, e_swn, e_swc, e_sw0, e_sw1, e_sw2, e_sw3, e_sw4, e_sw5, e_sw6, e_sw7, e_sw8, e_sw9, Option.toList_some, Option.toList_none, List.cons_append, List.nil_append, List.length_cons, List.length_nil, Nat.reduceAdd, Nat.reduceLeDiff, Nat.zero_le, Nat.le_refl, true_and, and_true, WP_eq, Nat.reduceSub, if_true, if_false, Nat.reduceEqDiff, not_false_eq_true, i_10, i_01, Int32.reduceLT, Int32.reduceLE, true_or, or_true, ne_eq, fk_2 hk, fk_8 hk, fk_11 hk, fk_20 hk, fk_29 hk, fr_6_11_4 hr, fk_16 hk, fl_16 hl, fr_6_11_7 hr, fk_19 hk, fl_19 hl, fr_6_11_2 hr, fk_14 hk, fl_14 hl, fr_6_11_5 hr, fk_17 hk, fl_17 hl, en_22, c_20, c_21, c_22, k22_0, k22_1, k22_10, k22_100, k22_101, k22_102, k22_103, k22_104, k22_107, k22_110, k22_111, k22_114, k22_115, k22_118, k22_119, k22_120, k22_121, k22_122, k22_123, k22_124, k22_125, k22_126, k22_127, k22_128, k22_129, k22_13, k22_132, k22_14, k22_15, k22_16, k22_19, k22_2, k22_20, k22_21, k22_22, k22_23, k22_26, k22_29, k22_30, k22_31, k22_35, k22_36, k22_39, k22_42, k22_43, k22_46, k22_48, k22_49, k22_5, k22_52, k22_53, k22_56, k22_58, k22_59, k22_60, k22_61, k22_62, k22_63, k22_64, k22_67, k22_68, k22_69, k22_72, k22_74, k22_75, k22_76, k22_77, k22_78, k22_79, k22_8, k22_80, k22_81, k22_82, k22_83, k22_85, k22_88, k22_89, k22_9, k22_90, k22_93, k22_94, k22_97, k22_99, s_aload_n, s_dup2, s_goto, s_iadd, s_iaload20, s_iastore, s_icmp_ge, s_icmp_lt, s_iconst, s_if_le, s_iinc, s_iload, s_iload_n, s_istore, s_isub, s_return, sg_6_10, sg_6_2, sg_6_4, sg_6_5, sg_6_7, sg_6_8, sg_6_9, fN, hself, L_keep hk hl hr fN sN6 hb1 hB.1 (show fA V (fun k v => dst (hp k) (vp v)) a p a ≤ 600 by omega)]
    by_cases c : bs' ≤ fA V (fun k v => dst (hp k) (vp v)) a p a
    · rw [if_pos c]
      refine hQ iv ⟨hF, hr1, hc1, bs', hb1, hB.skip (by omega) (fun q q1 q2 _ => ?_)⟩
      obtain rfl : q = p := by omega
      exact c
    · rw [if_neg c]
      refine hQ _ ⟨⟨fun K k1 k2 => ?_, fun b b1 b2 b3 => ?_, fun q q1 => ?_⟩, fun i' hi' => ?_, fun k' hk' => ?_, _, ?_, BI.leaf hB hG (by omega) (fun k' hk' => ?_)⟩
      · rw [cp3_c k2, u3_c k1]; exact hF.1 K k1 k2
      · rw [cp3_a b2, u3_c (by decide)]; exact hF.2.1 b b1 b2 b3
      · rw [cp3_c (by decide), u3_j q1]; exact hF.2.2 q q1
      · rw [cp3_a (by decide), u3_c (by decide)]; exact hr1 i' hi'
      · rw [cp3_a (by decide), u3_c (by decide)]; exact hc1 k' hk'
      · rw [cp3_c (by decide), u3_s]
      · rw [cp3_in hk', u3_c (by decide)]; exact hc1 k' hk'
  | succ k ih =>
    intro a p iv Q ha hG hT hQ
    obtain ⟨hF, hr1, hc1, bs', hb1, hB⟩ := id hT
    have hfb : fA V (fun k v => dst (hp k) (vp v)) a p a ≤ 99 * a := fA_bd (Nat.le_refl a) (fun k' v' h1 h2 => dst_bd (s13 k' (by omega)).2 (svp v' h2))
    have hlb := lfv_bd (cost := fun k v => dst (hp k) (vp v)) (vn := vn) (M := M) (u := u) (N := N) (a := a)
    have hb6 := hB.1
    have fN : iv 6 11 8 = nI N := by rw [hF.2.2 8 (by decide)]; exact sN
    have f16 : iv 20 16 a = nI (lfv (fun k v => dst (hp k) (vp v)) vn M u N a) := by rw [hF.2.1 16 (by decide) (by decide) (by decide)]; exact s16 a (by omega)
    have c1 : ¬ nI N ≤ nI a := nI_ge (show a < N by omega) (by omega)
    have c1' : nI a < nI N := nI_lt (show a < N by omega) (by omega)
    have q3 : vp_in (nI a) 7 := vp_in_nI (by omega) (by decide)
    have q4 : (nI a).toNatClampNeg = a := nI_clamp (by omega)
    have e1 := nI_add (fA V (fun k v => dst (hp k) (vp v)) a p a) (lfv (fun k v => dst (hp k) (vp v)) vn M u N a)
    by_cases c : fA V (fun k v => dst (hp k) (vp v)) a p a + lfv (fun k v => dst (hp k) (vp v)) vn M u N a < bs'
    · have c2 : nI (fA V (fun k v => dst (hp k) (vp v)) a p a + lfv (fun k v => dst (hp k) (vp v)) vn M u N a) < nI bs' := nI_lt c (by omega)
      simp only [e_lI0, e_lR0, e_st0, e_lI1, e_lR1, e_st1, e_lI2, e_lR2, e_st2, e_lI3, e_lR3, e_st3, e_lI4, e_lR4, e_st4, e_lI5, e_lR5, e_st5, e_lI6, e_lR6, e_st6, e_lI7, e_lR7, e_st7, e_lI8, e_lR8, e_st8, e_swn, e_swc, e_sw0, e_sw1, e_sw2, e_sw3, e_sw4, e_sw5, e_sw6, e_sw7, e_sw8, e_sw9, Option.toList_some, Option.toList_none, List.cons_append, List.nil_append, List.length_cons, List.length_nil, Nat.reduceAdd, Nat.reduceLeDiff, Nat.zero_le, Nat.le_refl, true_and, and_true, WP_eq, Nat.reduceSub, if_true, if_false, Nat.reduceEqDiff, not_false_eq_true, i_10, i_01, Int32.reduceLT, Int32.reduceLE, true_or, or_true, ne_eq, fk_2 hk, fk_8 hk, fk_11 hk, fk_20 hk, fk_29 hk, fr_6_11_4 hr, fk_16 hk, fl_16 hl, fr_6_11_7 hr, fk_19 hk, fl_19 hl, fr_6_11_2 hr, fk_14 hk, fl_14 hl, fr_6_11_5 hr, fk_17 hk, fl_17 hl, en_22, c_20, c_21, c_22, k22_0, k22_1, k22_10, k22_100, k22_101, k22_102, k22_103, k22_104, k22_107, k22_110, k22_111, k22_114, k22_115, k22_118, k22_119, k22_120, k22_121, k22_122, k22_123, k22_124, k22_125, k22_126, k22_127, k22_128, k22_129, k22_13, k22_132, k22_14, k22_15, k22_16, k22_19, k22_2, k22_20, k22_21, k22_22, k22_23, k22_26, k22_29, k22_30, k22_31, k22_35, k22_36, k22_39, k22_42, k22_43, k22_46, k22_48, k22_49, k22_5, k22_52, k22_53, k22_56, k22_58, k22_59, k22_60, k22_61, k22_62, k22_63, k22_64, k22_67, k22_68, k22_69, k22_72, k22_74, k22_75, k22_76, k22_77, k22_78, k22_79, k22_8, k22_80, k22_81, k22_82, k22_83, k22_85, k22_88, k22_89, k22_9, k22_90, k22_93, k22_94, k22_97, k22_99, s_aload_n, s_dup2, s_goto, s_iadd, s_iaload20, s_iastore, s_icmp_ge, s_icmp_lt, s_iconst, s_if_le, s_iinc, s_iload, s_iload_n, s_istore, s_isub, s_return, sg_6_10, sg_6_2, sg_6_4, sg_6_5, sg_6_7, sg_6_8, sg_6_9, fN, f16, c1', q3, q4, e1, hb1, c2]
      rw [← WP_eq]
      refine lp_walk (d := d + k + 1) hk hl hr hS ha hG (fun p' iv' Q' h1 h2 h3 => ih (a + 1) p' iv' Q' (by omega) h1 h2 h3) hQ M 0 iv (by omega) ⟨hF, hr1, hc1, bs', hb1, ?_⟩
      rw [show (p * (V + 1) + bd vn 0) * (V + 1) ^ k = p * (V + 1) ^ (k + 1) by rw [show bd vn 0 = 0 from rfl, Nat.add_zero, Nat.pow_succ, Nat.mul_comm ((V + 1) ^ k), ← Nat.mul_assoc]]
      exact hB
    · have c2 : ¬ nI (fA V (fun k v => dst (hp k) (vp v)) a p a + lfv (fun k v => dst (hp k) (vp v)) vn M u N a) < nI bs' := nI_nlt (by omega) (by omega)
      simp only [e_lI0, e_lR0, e_st0, e_lI1, e_lR1, e_st1, e_lI2, e_lR2, e_st2, e_lI3, e_lR3, e_st3, e_lI4, e_lR4, e_st4, e_lI5, e_lR5, e_st5, e_lI6, e_lR6, e_st6, e_lI7, e_lR7, e_st7, e_lI8, e_lR8, e_st8, e_swn, e_swc, e_sw0, e_sw1, e_sw2, e_sw3, e_sw4, e_sw5, e_sw6, e_sw7, e_sw8, e_sw9, Option.toList_some, Option.toList_none, List.cons_append, List.nil_append, List.length_cons, List.length_nil, Nat.reduceAdd, Nat.reduceLeDiff, Nat.zero_le, Nat.le_refl, true_and, and_true, WP_eq, Nat.reduceSub, if_true, if_false, Nat.reduceEqDiff, not_false_eq_true, i_10, i_01, Int32.reduceLT, Int32.reduceLE, true_or, or_true, ne_eq, fk_2 hk, fk_8 hk, fk_11 hk, fk_20 hk, fk_29 hk, fr_6_11_4 hr, fk_16 hk, fl_16 hl, fr_6_11_7 hr, fk_19 hk, fl_19 hl, fr_6_11_2 hr, fk_14 hk, fl_14 hl, fr_6_11_5 hr, fk_17 hk, fl_17 hl, en_22, c_20, c_21, c_22, k22_0, k22_1, k22_10, k22_100, k22_101, k22_102, k22_103, k22_104, k22_107, k22_110, k22_111, k22_114, k22_115, k22_118, k22_119, k22_120, k22_121, k22_122, k22_123, k22_124, k22_125, k22_126, k22_127, k22_128, k22_129, k22_13, k22_132, k22_14, k22_15, k22_16, k22_19, k22_2, k22_20, k22_21, k22_22, k22_23, k22_26, k22_29, k22_30, k22_31, k22_35, k22_36, k22_39, k22_42, k22_43, k22_46, k22_48, k22_49, k22_5, k22_52, k22_53, k22_56, k22_58, k22_59, k22_60, k22_61, k22_62, k22_63, k22_64, k22_67, k22_68, k22_69, k22_72, k22_74, k22_75, k22_76, k22_77, k22_78, k22_79, k22_8, k22_80, k22_81, k22_82, k22_83, k22_85, k22_88, k22_89, k22_9, k22_90, k22_93, k22_94, k22_97, k22_99, s_aload_n, s_dup2, s_goto, s_iadd, s_iaload20, s_iastore, s_icmp_ge, s_icmp_lt, s_iconst, s_if_le, s_iinc, s_iload, s_iload_n, s_istore, s_isub, s_return, sg_6_10, sg_6_2, sg_6_4, sg_6_5, sg_6_7, sg_6_8, sg_6_9, fN, f16, c1', q3, q4, e1, hb1, c2]
      refine hQ iv ⟨hF, hr1, hc1, bs', hb1, hB.skip (Nat.mul_le_mul_right _ (by omega)) (fun q q1 q2 hg => ?_)⟩
      have e : q / (V + 1) ^ (k + 1) = p := rng q1 q2
      have h1 := lfv_ok (cost := fun k v => dst (hp k) (vp v)) (vn := vn) (M := M) (a := a) sVN.2.2 hg (by omega)
      rw [fA_pre (show a ≤ N by omega), show N - a = k + 1 by omega, e] at h1
      omega
set_option maxRecDepth 100000 in
set_option maxHeartbeats 4000000 in
theorem lp_least {d V M k : Nat} {hp vp vn : Nat → Nat} {n : Nat} {kd ln : Nat → Nat} {iv : Nat → Nat → Nat → Int32} {rv : Nat → Nat → Nat → Nat} {Q : Rt} {bc bs : Nat} (hk : FixK kd) (hl : FixL ln) (hr : FixR rv) (hk6 : k < 6) (hM : iv 6 11 9 = nI M) (hM4 : M ≤ 4) (h13 : iv 20 13 k = nI (hp k)) (hp9 : hp k < 100) (h18 : ∀ i, i < M → iv 20 18 i = nI (vp (vn i)) ∧ vp (vn i) < 100) :
    ∀ j i, i + j = M → WPc (MW (d + 1)) 19 Q 5 [some (.inr 11), some (.inl (nI k)), some (.inl (nI (mW (fun k v => dst (hp k) (vp v)) vn k i))), some (.inl (nI i))] [] ((n, kd, ln), iv, rv) bc bs = Q (some (.inl (nI (mW (fun k v => dst (hp k) (vp v)) vn k M)))) ((n, kd, ln), iv, rv) := by
  intro j
  induction j with
  | zero =>
    intro i hi
    obtain rfl : i = M := by omega
    rw [WP_eq, k19_5]
    simp only [e_lI0, e_lR0, e_st0, e_lI1, e_lR1, e_st1, e_lI2, e_lR2, e_st2, e_lI3, e_lR3, e_st3, e_lI4, e_lR4, e_st4, e_lI5, e_lR5, e_st5, e_lI6, e_lR6, e_st6, e_lI7, e_lR7, e_st7, e_lI8, e_lR8, e_st8, e_swn, e_swc, e_sw0, e_sw1, e_sw2, e_sw3, e_sw4, e_sw5, e_sw6, e_sw7, e_sw8, e_sw9, Option.toList_some, Option.toList_none, List.cons_append, List.nil_append, List.length_cons, List.length_nil, Nat.reduceAdd, Nat.reduceLeDiff, Nat.zero_le, Nat.le_refl, true_and, and_true, WP_eq, Nat.reduceSub, if_true, if_false, Nat.reduceEqDiff, not_false_eq_true, i_10, i_01, Int32.reduceLT, Int32.reduceLE, true_or, or_true, ne_eq, fk_2 hk, fk_8 hk, fk_11 hk, fk_20 hk, fk_29 hk, en_19, c_20, k19_0, k19_10, k19_13, k19_14, k19_15, k19_16, k19_17, k19_2, k19_23, k19_24, k19_27, k19_3, k19_30, k19_31, k19_4, k19_6, k19_7, r_19, s_aload_n, s_bipush, s_goto, s_icmp_ge, s_iconst, s_iinc, s_iload_n, s_istore_n, sg_6_9, hM, nI_self_le]
  | succ j ih =>
    intro i hi
    have hiM : i < M := by omega
    have c1 : ¬ nI M ≤ nI i := nI_ge hiM (by omega)
    have hm := mW_le (cost := fun k v => dst (hp k) (vp v)) (vn := vn) (k := k) i
    have hd := dst_bd hp9 (h18 i hiM).2
    have e : (if nI (dst (hp k) (vp (vn i))) < nI (mW (fun k v => dst (hp k) (vp v)) vn k i) then nI (dst (hp k) (vp (vn i))) else nI (mW (fun k v => dst (hp k) (vp v)) vn k i)) = nI (mW (fun k v => dst (hp k) (vp v)) vn k (i + 1)) := by
      rw [show mW (fun k v => dst (hp k) (vp v)) vn k (i + 1) = min (mW (fun k v => dst (hp k) (vp v)) vn k i) (dst (hp k) (vp (vn i))) from rfl]
      rcases Nat.lt_or_ge (dst (hp k) (vp (vn i))) (mW (fun k v => dst (hp k) (vp v)) vn k i) with z | z
      · rw [if_pos (nI_lt z (by omega)), Nat.min_eq_right (by omega)]
      · rw [if_neg (nI_nlt z (by omega)), Nat.min_eq_left (by omega)]
    rw [WP_eq, k19_5]
    simp only [e_lI0, e_lR0, e_st0, e_lI1, e_lR1, e_st1, e_lI2, e_lR2, e_st2, e_lI3, e_lR3, e_st3, e_lI4, e_lR4, e_st4, e_lI5, e_lR5, e_st5, e_lI6, e_lR6, e_st6, e_lI7, e_lR7, e_st7, e_lI8, e_lR8, e_st8, e_swn, e_swc, e_sw0, e_sw1, e_sw2, e_sw3, e_sw4, e_sw5, e_sw6, e_sw7, e_sw8, e_sw9, Option.toList_some, Option.toList_none, List.cons_append, List.nil_append, List.length_cons, List.length_nil, Nat.reduceAdd, Nat.reduceLeDiff, Nat.zero_le, Nat.le_refl, true_and, and_true, WP_eq, Nat.reduceSub, if_true, if_false, Nat.reduceEqDiff, not_false_eq_true, i_10, i_01, Int32.reduceLT, Int32.reduceLE, true_or, or_true, ne_eq, fk_2 hk, fk_8 hk, fk_11 hk, fk_20 hk, fk_29 hk, en_19, c_20, k19_0, k19_10, k19_13, k19_14, k19_15, k19_16, k19_17, k19_2, k19_23, k19_24, k19_27, k19_3, k19_30, k19_31, k19_4, k19_6, k19_7, r_19, s_aload_n, s_bipush, s_goto, s_icmp_ge, s_iconst, s_iinc, s_iload_n, s_istore_n, sg_6_9, hM, c1, L_way hk hl hr hk6 (show i < 4 by omega) h13 (h18 i hiM).1 hp9 (h18 i hiM).2]
    rw [k19_20, s_minp, e]
    simp only [e_lI0, e_lR0, e_st0, e_lI1, e_lR1, e_st1, e_lI2, e_lR2, e_st2, e_lI3, e_lR3, e_st3, e_lI4, e_lR4, e_st4, e_lI5, e_lR5, e_st5, e_lI6, e_lR6, e_st6, e_lI7, e_lR7, e_st7, e_lI8, e_lR8, e_st8, e_swn, e_swc, e_sw0, e_sw1, e_sw2, e_sw3, e_sw4, e_sw5, e_sw6, e_sw7, e_sw8, e_sw9, Option.toList_some, Option.toList_none, List.cons_append, List.nil_append, List.length_cons, List.length_nil, Nat.reduceAdd, Nat.reduceLeDiff, Nat.zero_le, Nat.le_refl, true_and, and_true, WP_eq, Nat.reduceSub, if_true, if_false, Nat.reduceEqDiff, not_false_eq_true, i_10, i_01, Int32.reduceLT, Int32.reduceLE, true_or, or_true, ne_eq, fk_2 hk, fk_8 hk, fk_11 hk, fk_20 hk, fk_29 hk, en_19, c_20, k19_0, k19_10, k19_13, k19_14, k19_15, k19_16, k19_17, k19_2, k19_23, k19_24, k19_27, k19_3, k19_30, k19_31, k19_4, k19_6, k19_7, r_19, s_aload_n, s_bipush, s_goto, s_icmp_ge, s_iconst, s_iinc, s_iload_n, s_istore_n, sg_6_9]
    rw [← WP_eq, nI_1, ih (i + 1) (by omega)]
set_option maxRecDepth 100000 in
set_option maxHeartbeats 4000000 in
theorem L_least {d V M k : Nat} {hp vp vn : Nat → Nat} {n : Nat} {kd ln : Nat → Nat} {iv : Nat → Nat → Nat → Int32} {rv : Nat → Nat → Nat → Nat} {Q : Rt} (hk : FixK kd) (hl : FixL ln) (hr : FixR rv) (hk6 : k < 6) (hM : iv 6 11 9 = nI M) (hM4 : M ≤ 4) (h13 : iv 20 13 k = nI (hp k)) (hp9 : hp k < 100) (h18 : ∀ i, i < M → iv 20 18 i = nI (vp (vn i)) ∧ vp (vn i) < 100) : MW (d + 2) 19 [.inr 11, .inl (nI k)] ((n, kd, ln), iv, rv) Q = Q (some (.inl (nI (mW (fun k v => dst (hp k) (vp v)) vn k M)))) ((n, kd, ln), iv, rv) := by
  simp only [e_lI0, e_lR0, e_st0, e_lI1, e_lR1, e_st1, e_lI2, e_lR2, e_st2, e_lI3, e_lR3, e_st3, e_lI4, e_lR4, e_st4, e_lI5, e_lR5, e_st5, e_lI6, e_lR6, e_st6, e_lI7, e_lR7, e_st7, e_lI8, e_lR8, e_st8, e_swn, e_swc, e_sw0, e_sw1, e_sw2, e_sw3, e_sw4, e_sw5, e_sw6, e_sw7, e_sw8, e_sw9, Option.toList_some, Option.toList_none, List.cons_append, List.nil_append, List.length_cons, List.length_nil, Nat.reduceAdd, Nat.reduceLeDiff, Nat.zero_le, Nat.le_refl, true_and, and_true, WP_eq, Nat.reduceSub, if_true, if_false, Nat.reduceEqDiff, not_false_eq_true, i_10, i_01, Int32.reduceLT, Int32.reduceLE, true_or, or_true, ne_eq, fk_2 hk, fk_8 hk, fk_11 hk, fk_20 hk, fk_29 hk, en_19, c_20, k19_0, k19_10, k19_13, k19_14, k19_15, k19_16, k19_17, k19_2, k19_23, k19_24, k19_27, k19_3, k19_30, k19_31, k19_4, k19_6, k19_7, r_19, s_aload_n, s_bipush, s_goto, s_icmp_ge, s_iconst, s_iinc, s_iload_n, s_istore_n, sg_6_9]
  rw [← WP_eq]
  exact lp_least (V := V) hk hl hr hk6 hM hM4 h13 hp9 h18 M 0 (by omega)
