def gK (kd : Nat → Nat) (n : Nat) : Nat → (Nat → Nat)
  | 0 => kd
  | t + 1 => u1 (gK kd n t) (n + t) 2
def gR (rv : Nat → Nat → Nat → Nat) (n C : Nat) : Nat → (Nat → Nat → Nat → Nat)
  | 0 => rv
  | t + 1 => u3 (gR rv n C t) 32 5 (C + t) (n + t)
def gI (iv : Nat → Nat → Nat → Int32) (n : Nat) (x : Int32) : Nat → (Nat → Nat → Nat → Int32)
  | 0 => iv
  | t + 1 => u3 (u3 (u3 (u3 (u3 (u3 (gI iv n x t) 2 (n + t) 1 0) 2 (n + t) 2 (-1)) 2 (n + t) 3 (-1)) 2 (n + t) 4 0) 2 (n + t) 5 0) 2 (n + t) 0 x
def mI (iv : Nat → Nat → Nat → Int32) (C : Nat) (x : Int32) : Nat → (Nat → Nat → Nat → Int32)
  | 0 => iv
  | t + 1 => u3 (u3 (u3 (u3 (mI iv C x t) 20 33 (C + t) x) 20 34 (C + t) (-1)) 20 35 (C + t) (-1)) 12 29 4 (nI (C + t) + 1)
theorem gK_fix {kd : Nat → Nat} {n : Nat} (h : FixK kd) (hn : 60 ≤ n) : ∀ t, FixK (gK kd n t)
  | 0 => h
  | t + 1 => (gK_fix h hn t).new (by omega)
theorem gR_fix {rv : Nat → Nat → Nat → Nat} {n C : Nat} (h : FixR rv) : ∀ t, FixR (gR rv n C t)
  | 0 => h
  | t + 1 => (gR_fix h t).put (Or.inl (by decide))
theorem gK_old {kd : Nat → Nat} {n a : Nat} (h : a < n) : ∀ t, gK kd n t a = kd a
  | 0 => rfl
  | t + 1 => by unfold gK; rw [u1_n (by omega), gK_old h t]
theorem gK_new {kd : Nat → Nat} {n s : Nat} : ∀ t, s < t → gK kd n t (n + s) = 2
  | 0, h => by omega
  | t + 1, h => by
    unfold gK
    by_cases e : s = t
    · rw [e, u1_s]
    · rw [u1_n (by omega), gK_new t (by omega)]
theorem gK_lt {kd : Nat → Nat} {n : Nat} (h : ∀ a, kd a ≠ 0 → a < n) : ∀ t a, gK kd n t a ≠ 0 → a < n + t
  | 0, a, q => h a q
  | t + 1, a, q => by
    unfold gK at q
    by_cases e : a = n + t
    · omega
    · rw [u1_n e] at q
      have := gK_lt h t a q
      omega
theorem gR_c {rv : Nat → Nat → Nat → Nat} {n C K : Nat} (h : K ≠ 32) : ∀ t, gR rv n C t K = rv K
  | 0 => rfl
  | t + 1 => by unfold gR; rw [u3_c h, gR_c h t]
theorem gR_old {rv : Nat → Nat → Nat → Nat} {n C i : Nat} (h : i < C) : ∀ t, gR rv n C t 32 5 i = rv 32 5 i
  | 0 => rfl
  | t + 1 => by unfold gR; rw [u3_j (by omega), gR_old h t]
theorem gR_new {rv : Nat → Nat → Nat → Nat} {n C s : Nat} : ∀ t, s < t → gR rv n C t 32 5 (C + s) = n + s
  | 0, h => by omega
  | t + 1, h => by
    unfold gR
    by_cases e : s = t
    · rw [e, u3_s]
    · rw [u3_j (by omega), gR_new t (by omega)]
theorem gI_c {iv : Nat → Nat → Nat → Int32} {n : Nat} {x : Int32} {K : Nat} (h : K ≠ 2) : ∀ t, gI iv n x t K = iv K
  | 0 => rfl
  | t + 1 => by unfold gI; rw [u3_c h, u3_c h, u3_c h, u3_c h, u3_c h, u3_c h, gI_c h t]
theorem gI_old {iv : Nat → Nat → Nat → Int32} {n : Nat} {x : Int32} {a : Nat} (h : a < n) : ∀ t, gI iv n x t 2 a = iv 2 a
  | 0 => rfl
  | t + 1 => by
    have hne : a ≠ n + t := by omega
    unfold gI; rw [u3_a hne, u3_a hne, u3_a hne, u3_a hne, u3_a hne, u3_a hne, gI_old h t]
theorem gI_new {iv : Nat → Nat → Nat → Int32} {n : Nat} {x : Int32} {s : Nat} : ∀ t, s < t → gI iv n x t 2 (n + s) 0 = x ∧ gI iv n x t 2 (n + s) 1 = 0 ∧ gI iv n x t 2 (n + s) 2 = -1 ∧ gI iv n x t 2 (n + s) 3 = -1 ∧ gI iv n x t 2 (n + s) 4 = 0 ∧ gI iv n x t 2 (n + s) 5 = 0
  | 0, h => by omega
  | t + 1, h => by
    by_cases e : s = t
    · subst e
      unfold gI
      simp only [Nat.add_left_cancel_iff, u3_d, eq_self, false_and, and_false, and_self, if_true, if_false, Nat.reduceEqDiff]
    · have hne : n + s ≠ n + t := by omega
      unfold gI
      rw [u3_a hne, u3_a hne, u3_a hne, u3_a hne, u3_a hne, u3_a hne]
      exact gI_new t (by omega)
theorem mI_c {iv : Nat → Nat → Nat → Int32} {C : Nat} {x : Int32} {K : Nat} (h : K ≠ 20) (h2 : K ≠ 12) : ∀ t, mI iv C x t K = iv K
  | 0 => rfl
  | t + 1 => by unfold mI; rw [u3_c h2, u3_c h, u3_c h, u3_c h, mI_c h h2 t]
theorem mI_12 {iv : Nat → Nat → Nat → Int32} {C : Nat} {x : Int32} {j : Nat} (h : j ≠ 4) : ∀ t, mI iv C x t 12 29 j = iv 12 29 j
  | 0 => rfl
  | t + 1 => by unfold mI; rw [u3_j h, u3_c (by decide), u3_c (by decide), u3_c (by decide), mI_12 h t]
theorem mI_4 {iv : Nat → Nat → Nat → Int32} {C : Nat} {x : Int32} (h : iv 12 29 4 = nI C) : ∀ t, mI iv C x t 12 29 4 = nI (C + t)
  | 0 => h
  | t + 1 => by unfold mI; rw [u3_s, nI_1]; rfl
theorem mI_a {iv : Nat → Nat → Nat → Int32} {C : Nat} {x : Int32} {a : Nat} (h1 : a ≠ 33) (h2 : a ≠ 34) (h3 : a ≠ 35) : ∀ t, mI iv C x t 20 a = iv 20 a
  | 0 => rfl
  | t + 1 => by unfold mI; rw [u3_c (by decide), u3_a h3, u3_a h2, u3_a h1, mI_a h1 h2 h3 t]
theorem mI_old {iv : Nat → Nat → Nat → Int32} {C : Nat} {x : Int32} {a c : Nat} (h : c < C) : ∀ t, mI iv C x t 20 a c = iv 20 a c
  | 0 => rfl
  | t + 1 => by
    have hne : c ≠ C + t := by omega
    unfold mI; rw [u3_c (by decide), u3_j hne, u3_j hne, u3_j hne, mI_old h t]
theorem mI_new {iv : Nat → Nat → Nat → Int32} {C : Nat} {x : Int32} {s : Nat} : ∀ t, s < t → mI iv C x t 20 33 (C + s) = x ∧ mI iv C x t 20 34 (C + s) = -1 ∧ mI iv C x t 20 35 (C + s) = -1
  | 0, h => by omega
  | t + 1, h => by
    by_cases e : s = t
    · subst e
      unfold mI
      simp only [Nat.add_left_cancel_iff, u3_d, eq_self, false_and, and_false, and_self, if_true, if_false, Nat.reduceEqDiff]
    · have hne : C + s ≠ C + t := by omega
      unfold mI
      rw [u3_c (by decide), u3_j hne, u3_j hne, u3_j hne, u3_j hne, u3_j hne, u3_j hne, u3_j hne, u3_j hne, u3_j hne]
      exact mI_new t (by omega)
set_option maxRecDepth 100000 in
set_option maxHeartbeats 4000000 in
theorem lp_give {d C q a : Nat} {x y : Int32} {n : Nat} {kd ln : Nat → Nat} {iv : Nat → Nat → Nat → Int32} {rv : Nat → Nat → Nat → Nat} {Q : Rt} {bc bs : Nat} (hk : FixK kd) (hl : FixL ln) (hr : FixR rv) (hn : 60 ≤ n) (hq1 : q ≤ bc) (hq2 : 6 * q ≤ bs) (hCq : C + q ≤ 400) :
    ∀ k t, t + k = q → WPc (MW (d + 1)) 35 Q 84 [some (.inr 2), some (.inl x), some (.inl y), some (.inr a), some (.inl (nI q)), some (.inl (nI (C + q))), some (.inl (nI (C + t)))] [] ((n + t, gK kd n t, ln), gI iv n x t, gR rv n C t) (bc - t) (bs - 6 * t) = Q (some (.inl (nI q))) ((n + q, gK kd n q, ln), u3 (gI iv n x q) 11 2 11 (nI (C + q)), gR rv n C q) := by
  intro k
  induction k with
  | zero =>
    intro t ht
    obtain rfl : t = q := by omega
    have hk := gK_fix hk hn t
    rw [WP_eq, k35_84]
    simp only [e_lI0, e_lR0, e_st0, e_lI1, e_lR1, e_st1, e_lI2, e_lR2, e_st2, e_lI3, e_lR3, e_st3, e_lI4, e_lR4, e_st4, e_lI5, e_lR5, e_st5, e_lI6, e_lR6, e_st6, e_lI7, e_lR7, e_st7, e_lI8, e_lR8, e_st8, e_swn, e_swc, e_sw0, e_sw1, e_sw2, e_sw3, e_sw4, e_sw5, e_sw6, e_sw7, e_sw8, e_sw9, Option.toList_some, Option.toList_none, List.cons_append, List.nil_append, List.length_cons, List.length_nil, Nat.reduceAdd, Nat.reduceLeDiff, Nat.zero_le, Nat.le_refl, true_and, and_true, WP_eq, Nat.reduceSub, if_true, if_false, Nat.reduceEqDiff, not_false_eq_true, i_10, i_01, Int32.reduceLT, Int32.reduceLE, true_or, or_true, ne_eq, fk_2 hk, fk_8 hk, fk_11 hk, fk_20 hk, fk_29 hk, fr_11_2_2 hr, fk_5 hk, fl_5 hl, en_35, c_64, c_8, k35_0, k35_1, k35_10, k35_100, k35_101, k35_102, k35_105, k35_106, k35_109, k35_11, k35_112, k35_113, k35_115, k35_118, k35_12, k35_120, k35_15, k35_16, k35_19, k35_2, k35_22, k35_23, k35_24, k35_25, k35_28, k35_30, k35_31, k35_32, k35_33, k35_35, k35_36, k35_38, k35_39, k35_42, k35_44, k35_45, k35_47, k35_49, k35_5, k35_52, k35_55, k35_56, k35_57, k35_58, k35_59, k35_6, k35_62, k35_63, k35_64, k35_67, k35_68, k35_69, k35_7, k35_72, k35_74, k35_75, k35_78, k35_79, k35_82, k35_86, k35_88, k35_91, k35_92, k35_95, k35_97, r_35, s_aastore, s_aload_n, s_astore_n, s_bipush, s_dup, s_goto, s_iadd, s_icmp_ge, s_icmp_le, s_icmp_lt, s_iconst, s_idiv, s_ifnull, s_iinc, s_iload, s_iload_n, s_irem, s_istore, s_new_2, s_sipush, sg_11_11, sg_11_2, sg_9_0, sg_9_1, sp_11_11, sp_9_0, sp_9_1, nI_self_le]
  | succ k ih =>
    intro t ht
    have hk1 := gK_fix hk hn t
    have hk2 := gK_fix hk hn (t + 1)
    have hr := gR_fix (n := n) (C := C) hr t
    have c1 : ¬ nI (C + q) ≤ nI (C + t) := nI_ge (show C + t < C + q by omega) (by omega)
    have hin : vp_in (nI (C + t)) 400 := vp_in_nI (by omega) (by decide)
    have hcl : (nI (C + t)).toNatClampNeg = C + t := nI_clamp (by omega)
    have hn0 : ¬ n + t = 0 := by omega
    have b1 : 1 ≤ bc - t := by omega
    have b2 : 6 ≤ bs - 6 * t := by omega
    have hk := hk1
    rw [WP_eq, k35_84]
    have hk2' : FixK (u1 (gK kd n t) (n + t) 2) := hk2
    simp only [fk_5 hk2', fk_2 hk2', e_lI0, e_lR0, e_st0, e_lI1, e_lR1, e_st1, e_lI2, e_lR2, e_st2, e_lI3, e_lR3, e_st3, e_lI4, e_lR4, e_st4, e_lI5, e_lR5, e_st5, e_lI6, e_lR6, e_st6, e_lI7, e_lR7, e_st7, e_lI8, e_lR8, e_st8, e_swn, e_swc, e_sw0, e_sw1, e_sw2, e_sw3, e_sw4, e_sw5, e_sw6, e_sw7, e_sw8, e_sw9, Option.toList_some, Option.toList_none, List.cons_append, List.nil_append, List.length_cons, List.length_nil, Nat.reduceAdd, Nat.reduceLeDiff, Nat.zero_le, Nat.le_refl, true_and, and_true, WP_eq, Nat.reduceSub, if_true, if_false, Nat.reduceEqDiff, not_false_eq_true, i_10, i_01, Int32.reduceLT, Int32.reduceLE, true_or, or_true, ne_eq, fk_2 hk, fk_8 hk, fk_11 hk, fk_20 hk, fk_29 hk, fr_11_2_2 hr, fk_5 hk, fl_5 hl, en_35, c_64, c_8, k35_0, k35_1, k35_10, k35_100, k35_101, k35_102, k35_105, k35_106, k35_109, k35_11, k35_112, k35_113, k35_115, k35_118, k35_12, k35_120, k35_15, k35_16, k35_19, k35_2, k35_22, k35_23, k35_24, k35_25, k35_28, k35_30, k35_31, k35_32, k35_33, k35_35, k35_36, k35_38, k35_39, k35_42, k35_44, k35_45, k35_47, k35_49, k35_5, k35_52, k35_55, k35_56, k35_57, k35_58, k35_59, k35_6, k35_62, k35_63, k35_64, k35_67, k35_68, k35_69, k35_7, k35_72, k35_74, k35_75, k35_78, k35_79, k35_82, k35_86, k35_88, k35_91, k35_92, k35_95, k35_97, r_35, s_aastore, s_aload_n, s_astore_n, s_bipush, s_dup, s_goto, s_iadd, s_icmp_ge, s_icmp_le, s_icmp_lt, s_iconst, s_idiv, s_ifnull, s_iinc, s_iload, s_iload_n, s_irem, s_istore, s_new_2, s_sipush, sg_11_11, sg_11_2, sg_9_0, sg_9_1, sp_11_11, sp_9_0, sp_9_1, en_8, k8_0, k8_1, k8_10, k8_11, k8_14, k8_15, k8_16, k8_19, k8_20, k8_21, k8_24, k8_25, k8_26, k8_29, k8_30, k8_31, k8_34, k8_4, k8_5, k8_6, k8_9, s_objInit, s_return, sp_2_0, sp_2_1, sp_2_2, sp_2_3, sp_2_4, sp_2_5, c1, hin, hcl, hn0, b1, b2, u1_s]
    rw [← WP_eq, nI_1, ← ih (t + 1) (by omega), show bs - 6 * t - 6 = bs - 6 * (t + 1) by omega, show bc - t - 1 = bc - (t + 1) by omega]
    rfl
set_option maxRecDepth 100000 in
set_option maxHeartbeats 4000000 in
theorem lp_giveM {d C q : Nat} {x y : Int32} {n : Nat} {kd ln : Nat → Nat} {iv : Nat → Nat → Nat → Int32} {rv : Nat → Nat → Nat → Nat} {Q : Rt} {bc bs : Nat} (hk : FixK kd) (hl : FixL ln) (hr : FixR rv) (hC : iv 12 29 4 = nI C) (hCq : C + q ≤ 400) :
    ∀ k t, t + k = q → WPc (MW d) 84 Q 76 [some (.inr 29), some (.inl x), some (.inl y), some (.inl (nI q)), some (.inl (nI t))] [] ((n, kd, ln), mI iv C x t, rv) bc bs = Q (some (.inl (nI q))) ((n, kd, ln), mI iv C x q, rv) := by
  intro k
  induction k with
  | zero =>
    intro t ht
    obtain rfl : t = q := by omega
    rw [WP_eq, k84_76]
    simp only [e_lI0, e_lR0, e_st0, e_lI1, e_lR1, e_st1, e_lI2, e_lR2, e_st2, e_lI3, e_lR3, e_st3, e_lI4, e_lR4, e_st4, e_lI5, e_lR5, e_st5, e_lI6, e_lR6, e_st6, e_lI7, e_lR7, e_st7, e_lI8, e_lR8, e_st8, e_swn, e_swc, e_sw0, e_sw1, e_sw2, e_sw3, e_sw4, e_sw5, e_sw6, e_sw7, e_sw8, e_sw9, Option.toList_some, Option.toList_none, List.cons_append, List.nil_append, List.length_cons, List.length_nil, Nat.reduceAdd, Nat.reduceLeDiff, Nat.zero_le, Nat.le_refl, true_and, and_true, WP_eq, Nat.reduceSub, if_true, if_false, Nat.reduceEqDiff, not_false_eq_true, i_10, i_01, Int32.reduceLT, Int32.reduceLE, true_or, or_true, ne_eq, fk_2 hk, fk_8 hk, fk_11 hk, fk_20 hk, fk_29 hk, fr_12_29_2 hr, fk_30 hk, fl_30 hl, fr_12_29_6 hr, fk_33 hk, fl_33 hl, fr_12_29_7 hr, fk_34 hk, fl_34 hl, fr_12_29_8 hr, fk_35 hk, fl_35 hl, en_84, c_79, k84_0, k84_1, k84_100, k84_101, k84_102, k84_103, k84_106, k84_107, k84_11, k84_110, k84_111, k84_112, k84_113, k84_114, k84_117, k84_118, k84_119, k84_122, k84_125, k84_128, k84_129, k84_14, k84_15, k84_16, k84_19, k84_2, k84_22, k84_25, k84_26, k84_27, k84_28, k84_3, k84_31, k84_32, k84_33, k84_34, k84_35, k84_37, k84_38, k84_39, k84_42, k84_43, k84_44, k84_46, k84_47, k84_48, k84_49, k84_50, k84_53, k84_54, k84_55, k84_58, k84_6, k84_61, k84_62, k84_63, k84_64, k84_67, k84_68, k84_69, k84_7, k84_70, k84_71, k84_72, k84_73, k84_74, k84_78, k84_79, k84_8, k84_82, k84_83, k84_86, k84_87, k84_90, k84_91, k84_92, k84_93, k84_96, k84_97, r_84, s_aload_n, s_bipush, s_dup, s_dup2, s_goto, s_iadd, s_iaload20, s_iastore, s_icmp_ge, s_icmp_le, s_iconst, s_idiv, s_if_eq, s_if_ne, s_iinc, s_iload, s_iload_n, s_istore, s_istore_n, s_isub, s_sipush, sg_12_1, sg_12_2, sg_12_4, sg_12_6, sg_12_7, sg_12_8, sp_12_4, nI_self_le]
  | succ k ih =>
    intro t ht
    have c1 : ¬ nI q ≤ nI t := nI_ge (show t < q by omega) (by omega)
    have hin : vp_in (nI (C + t)) 400 := vp_in_nI (by omega) (by decide)
    have hcl : (nI (C + t)).toNatClampNeg = C + t := nI_clamp (by omega)
    have h4 : mI iv C x t 12 29 4 = nI (C + t) := mI_4 hC t
    rw [WP_eq, k84_76]
    simp only [e_lI0, e_lR0, e_st0, e_lI1, e_lR1, e_st1, e_lI2, e_lR2, e_st2, e_lI3, e_lR3, e_st3, e_lI4, e_lR4, e_st4, e_lI5, e_lR5, e_st5, e_lI6, e_lR6, e_st6, e_lI7, e_lR7, e_st7, e_lI8, e_lR8, e_st8, e_swn, e_swc, e_sw0, e_sw1, e_sw2, e_sw3, e_sw4, e_sw5, e_sw6, e_sw7, e_sw8, e_sw9, Option.toList_some, Option.toList_none, List.cons_append, List.nil_append, List.length_cons, List.length_nil, Nat.reduceAdd, Nat.reduceLeDiff, Nat.zero_le, Nat.le_refl, true_and, and_true, WP_eq, Nat.reduceSub, if_true, if_false, Nat.reduceEqDiff, not_false_eq_true, i_10, i_01, Int32.reduceLT, Int32.reduceLE, true_or, or_true, ne_eq, fk_2 hk, fk_8 hk, fk_11 hk, fk_20 hk, fk_29 hk, fr_12_29_2 hr, fk_30 hk, fl_30 hl, fr_12_29_6 hr, fk_33 hk, fl_33 hl, fr_12_29_7 hr, fk_34 hk, fl_34 hl, fr_12_29_8 hr, fk_35 hk, fl_35 hl, en_84, c_79, k84_0, k84_1, k84_100, k84_101, k84_102, k84_103, k84_106, k84_107, k84_11, k84_110, k84_111, k84_112, k84_113, k84_114, k84_117, k84_118, k84_119, k84_122, k84_125, k84_128, k84_129, k84_14, k84_15, k84_16, k84_19, k84_2, k84_22, k84_25, k84_26, k84_27, k84_28, k84_3, k84_31, k84_32, k84_33, k84_34, k84_35, k84_37, k84_38, k84_39, k84_42, k84_43, k84_44, k84_46, k84_47, k84_48, k84_49, k84_50, k84_53, k84_54, k84_55, k84_58, k84_6, k84_61, k84_62, k84_63, k84_64, k84_67, k84_68, k84_69, k84_7, k84_70, k84_71, k84_72, k84_73, k84_74, k84_78, k84_79, k84_8, k84_82, k84_83, k84_86, k84_87, k84_90, k84_91, k84_92, k84_93, k84_96, k84_97, r_84, s_aload_n, s_bipush, s_dup, s_dup2, s_goto, s_iadd, s_iaload20, s_iastore, s_icmp_ge, s_icmp_le, s_iconst, s_idiv, s_if_eq, s_if_ne, s_iinc, s_iload, s_iload_n, s_istore, s_istore_n, s_isub, s_sipush, sg_12_1, sg_12_2, sg_12_4, sg_12_6, sg_12_7, sg_12_8, sp_12_4, c1, h4, hin, hcl, Nat.add_left_cancel_iff, u3_d, eq_self, false_and, and_false, and_self, if_true, if_false, Nat.reduceEqDiff]
    rw [← WP_eq, nI_1 t, ← ih (t + 1) (by omega)]
    rfl
