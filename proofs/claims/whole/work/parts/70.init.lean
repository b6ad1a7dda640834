theorem u1_d {f : Nat → Nat} {a x b : Nat} : u1 f a x b = if b = a then x else f b := rfl
theorem n_100000 : ¬ (100000 : Int32) = 0 := by decide
theorem n_10000 : ¬ (10000 : Int32) = 0 := by decide
theorem n_1000 : ¬ (1000 : Int32) = 0 := by decide
theorem n_10 : ¬ (10 : Int32) = 0 := by decide
def xK (kd : Nat → Nat) (n : Nat) : Nat → (Nat → Nat)
  | 0 => kd
  | t + 1 => u1 (xK kd n t) (n + t) 5
def xR (rv : Nat → Nat → Nat → Nat) (n : Nat) : Nat → (Nat → Nat → Nat → Nat)
  | 0 => rv
  | t + 1 => u3 (xR rv n t) 35 7 t (n + t)
def xI (iv : Nat → Nat → Nat → Int32) (n : Nat) : Nat → (Nat → Nat → Nat → Int32)
  | 0 => iv
  | t + 1 => u3 (u3 (u3 (u3 (xI iv n t) 5 (n + t) 0 0) 5 (n + t) 1 0) 5 (n + t) 2 0) 5 (n + t) 3 0
theorem xK_old {kd : Nat → Nat} {n a : Nat} (h : a < n) : ∀ t, xK kd n t a = kd a
  | 0 => rfl
  | t + 1 => by unfold xK; rw [u1_n (by omega), xK_old h t]
theorem xR_c {rv : Nat → Nat → Nat → Nat} {n K : Nat} (h : K ≠ 35) : ∀ t, xR rv n t K = rv K
  | 0 => rfl
  | t + 1 => by unfold xR; rw [u3_c h, xR_c h t]
set_option maxRecDepth 100000 in
set_option maxHeartbeats 4000000 in
theorem lp_init {d : Nat} {n : Nat} {kd ln : Nat → Nat} {iv : Nat → Nat → Nat → Int32} {rv : Nat → Nat → Nat → Nat} {Q : Rt} {bc bs : Nat} (h2 : kd 2 = 11) (h7 : kd 7 = 35) (l7 : ln 7 = 6) (r7 : rv 11 2 4 = 7) (hn : 23 ≤ n) (hb : 6 ≤ bc) (hs : 24 ≤ bs) :
    ∀ k t, t + k = 6 → WPc (MW (d + 1)) 33 Q 122 [some (.inr 2), some (.inl (nI t))] [] ((n + t, xK kd n t, ln), xI iv n t, xR rv n t) (bc - t) (bs - 4 * t) = Q none ((n + 6, xK kd n 6, ln), xI iv n 6, xR rv n 6) := by
  intro k
  induction k with
  | zero =>
    intro t ht
    obtain rfl : t = 6 := by omega
    have c1 : (6 : Int32) ≤ nI 6 := by decide
    rw [WP_eq, k33_122]
    simp only [e_lI0, e_lR0, e_st0, e_lI1, e_lR1, e_st1, e_lI2, e_lR2, e_st2, e_lI3, e_lR3, e_st3, e_lI4, e_lR4, e_st4, e_lI5, e_lR5, e_st5, e_lI6, e_lR6, e_st6, e_lI7, e_lR7, e_st7, e_lI8, e_lR8, e_st8, e_swn, e_swc, e_sw0, e_sw1, e_sw2, e_sw3, e_sw4, e_sw5, e_sw6, e_sw7, e_sw8, e_sw9, Option.toList_some, Option.toList_none, List.cons_append, List.nil_append, List.length_cons, List.length_nil, Nat.reduceAdd, Nat.reduceLeDiff, Nat.zero_le, Nat.le_refl, true_and, and_true, WP_eq, Nat.reduceSub, if_true, if_false, Nat.reduceEqDiff, not_false_eq_true, i_10, i_01, Int32.reduceLT, Int32.reduceLE, true_or, or_true, ne_eq, en_33, c_0, c_11, c_12, c_24, k33_0, k33_1, k33_10, k33_100, k33_101, k33_102, k33_105, k33_106, k33_107, k33_110, k33_111, k33_112, k33_115, k33_116, k33_117, k33_120, k33_121, k33_123, k33_125, k33_128, k33_129, k33_13, k33_132, k33_133, k33_136, k33_137, k33_14, k33_140, k33_141, k33_144, k33_147, k33_16, k33_19, k33_22, k33_23, k33_26, k33_29, k33_32, k33_33, k33_34, k33_37, k33_4, k33_40, k33_41, k33_43, k33_46, k33_49, k33_5, k33_50, k33_53, k33_54, k33_57, k33_60, k33_61, k33_64, k33_65, k33_68, k33_7, k33_71, k33_72, k33_75, k33_76, k33_79, k33_82, k33_83, k33_85, k33_87, k33_90, k33_91, k33_92, k33_95, k33_96, k33_97, s_aastore, s_aload_n, s_anewarray, s_bipush, s_dup, s_goto, s_icmp_ge, s_iconst, s_iinc, s_iload_n, s_istore_n, s_new_1, s_new_5, s_new_6, s_new_8, s_newarray, s_objInit, s_return, s_sipush, sg_11_4, sp_11_0, sp_11_1, sp_11_10, sp_11_11, sp_11_12, sp_11_13, sp_11_14, sp_11_2, sp_11_3, sp_11_4, sp_11_5, sp_11_6, sp_11_7, sp_11_8, sp_11_9, c1]
  | succ k ih =>
    intro t ht
    have c1 : ¬ (6 : Int32) ≤ nI t := nI_ge (show t < 6 by omega) (by decide)
    have hin : vp_in (nI t) 6 := vp_in_nI (by omega) (by decide)
    have hcl : (nI t).toNatClampNeg = t := nI_clamp (by omega)
    have hn0 : ¬ n + t = 0 := by omega
    have b1 : 1 ≤ bc - t := by omega
    have b2 : 4 ≤ bs - 4 * t := by omega
    have k2 : xK kd n t 2 = 11 := by rw [xK_old (by omega)]; exact h2
    have k7 : xK kd n t 7 = 35 := by rw [xK_old (by omega)]; exact h7
    have k7' : u1 (xK kd n t) (n + t) 5 7 = 35 := by rw [u1_n (by omega)]; exact k7
    have rr : xR rv n t 11 2 4 = 7 := by rw [xR_c (by decide)]; exact r7
    rw [WP_eq, k33_122]
    simp only [e_lI0, e_lR0, e_st0, e_lI1, e_lR1, e_st1, e_lI2, e_lR2, e_st2, e_lI3, e_lR3, e_st3, e_lI4, e_lR4, e_st4, e_lI5, e_lR5, e_st5, e_lI6, e_lR6, e_st6, e_lI7, e_lR7, e_st7, e_lI8, e_lR8, e_st8, e_swn, e_swc, e_sw0, e_sw1, e_sw2, e_sw3, e_sw4, e_sw5, e_sw6, e_sw7, e_sw8, e_sw9, Option.toList_some, Option.toList_none, List.cons_append, List.nil_append, List.length_cons, List.length_nil, Nat.reduceAdd, Nat.reduceLeDiff, Nat.zero_le, Nat.le_refl, true_and, and_true, WP_eq, Nat.reduceSub, if_true, if_false, Nat.reduceEqDiff, not_false_eq_true, i_10, i_01, Int32.reduceLT, Int32.reduceLE, true_or, or_true, ne_eq, en_33, c_0, c_11, c_12, c_24, k33_0, k33_1, k33_10, k33_100, k33_101, k33_102, k33_105, k33_106, k33_107, k33_110, k33_111, k33_112, k33_115, k33_116, k33_117, k33_120, k33_121, k33_123, k33_125, k33_128, k33_129, k33_13, k33_132, k33_133, k33_136, k33_137, k33_14, k33_140, k33_141, k33_144, k33_147, k33_16, k33_19, k33_22, k33_23, k33_26, k33_29, k33_32, k33_33, k33_34, k33_37, k33_4, k33_40, k33_41, k33_43, k33_46, k33_49, k33_5, k33_50, k33_53, k33_54, k33_57, k33_60, k33_61, k33_64, k33_65, k33_68, k33_7, k33_71, k33_72, k33_75, k33_76, k33_79, k33_82, k33_83, k33_85, k33_87, k33_90, k33_91, k33_92, k33_95, k33_96, k33_97, s_aastore, s_aload_n, s_anewarray, s_bipush, s_dup, s_goto, s_icmp_ge, s_iconst, s_iinc, s_iload_n, s_istore_n, s_new_1, s_new_5, s_new_6, s_new_8, s_newarray, s_objInit, s_return, s_sipush, sg_11_4, sp_11_0, sp_11_1, sp_11_10, sp_11_11, sp_11_12, sp_11_13, sp_11_14, sp_11_2, sp_11_3, sp_11_4, sp_11_5, sp_11_6, sp_11_7, sp_11_8, sp_11_9, en_11, k11_0, k11_1, k11_10, k11_11, k11_14, k11_15, k11_16, k11_19, k11_20, k11_21, k11_24, k11_4, k11_5, k11_6, k11_9, sp_5_0, sp_5_1, sp_5_2, sp_5_3, c1, k2, k7, k7', rr, l7, hin, hcl, hn0, b1, b2, u1_s]
    rw [← WP_eq, nI_1, ← ih (t + 1) (by omega), show bs - 4 * t - 4 = bs - 4 * (t + 1) by omega, show bc - t - 1 = bc - (t + 1) by omega]
    rfl
/-- what stands behind the class's constructor -/
def Ini (kd0 kd ln : Nat → Nat) (iv : Nat → Nat → Nat → Int32) (rv : Nat → Nat → Nat → Nat) (ln0 : Nat → Nat) (iv0 : Nat → Nat → Nat → Int32) : Prop :=
  (∀ q ∈ fkL, 2 ≤ q.1 → q.1 < 29 → kd q.1 = q.2) ∧ (kd 0 = kd0 0 ∧ kd 1 = kd0 1 ∧ ∀ a, 29 ≤ a → kd a = kd0 a) ∧ (∀ q ∈ flL, q.1 < 29 → ln q.1 = q.2) ∧ ln 1 = ln0 1 ∧ (∀ q ∈ frL, q.2.1 < 29 → rv q.1 q.2.1 q.2.2.1 = q.2.2.2) ∧ rv 8 8 3 = 0 ∧ RuleIs (iv 7) 10 0 110010 ∧
  (∀ w, w < 6 → iv 5 (23 + w) 0 = 0 ∧ iv 5 (23 + w) 1 = 0 ∧ iv 5 (23 + w) 2 = 0 ∧ iv 5 (23 + w) 3 = 0) ∧ (∀ j, 9 ≤ j → j ≤ 14 → iv 11 2 j = 0) ∧ iv 8 8 2 = 0 ∧ iv 8 8 4 = 0 ∧ iv 8 8 5 = 0 ∧ iv 1 20 1 = 0 ∧ (∀ K, K = 12 ∨ K = 19 ∨ K = 20 ∨ K = 21 → iv K = iv0 K)
set_option maxRecDepth 100000 in
set_option maxHeartbeats 4000000 in
theorem t_33 {d : Nat} {kd ln : Nat → Nat} {iv : Nat → Nat → Nat → Int32} {rv : Nat → Nat → Nat → Nat} {Q : Rt} (h2 : kd 2 = 11) (hQ : ∀ kd' ln' iv' rv', Ini kd kd' ln' iv' rv' ln iv → Q none ((29, kd', ln'), iv', rv')) : MW (d + 3) 33 [.inr 2] ((3, kd, ln), iv, rv) Q := by
  simp only [e_lI0, e_lR0, e_st0, e_lI1, e_lR1, e_st1, e_lI2, e_lR2, e_st2, e_lI3, e_lR3, e_st3, e_lI4, e_lR4, e_st4, e_lI5, e_lR5, e_st5, e_lI6, e_lR6, e_st6, e_lI7, e_lR7, e_st7, e_lI8, e_lR8, e_st8, e_swn, e_swc, e_sw0, e_sw1, e_sw2, e_sw3, e_sw4, e_sw5, e_sw6, e_sw7, e_sw8, e_sw9, Option.toList_some, Option.toList_none, List.cons_append, List.nil_append, List.length_cons, List.length_nil, Nat.reduceAdd, Nat.reduceLeDiff, Nat.zero_le, Nat.le_refl, true_and, and_true, WP_eq, Nat.reduceSub, if_true, if_false, Nat.reduceEqDiff, not_false_eq_true, i_10, i_01, Int32.reduceLT, Int32.reduceLE, true_or, or_true, ne_eq, en_33, c_0, c_11, c_12, c_24, k33_0, k33_1, k33_10, k33_100, k33_101, k33_102, k33_105, k33_106, k33_107, k33_110, k33_111, k33_112, k33_115, k33_116, k33_117, k33_120, k33_121, k33_123, k33_125, k33_128, k33_129, k33_13, k33_132, k33_133, k33_136, k33_137, k33_14, k33_140, k33_141, k33_144, k33_147, k33_16, k33_19, k33_22, k33_23, k33_26, k33_29, k33_32, k33_33, k33_34, k33_37, k33_4, k33_40, k33_41, k33_43, k33_46, k33_49, k33_5, k33_50, k33_53, k33_54, k33_57, k33_60, k33_61, k33_64, k33_65, k33_68, k33_7, k33_71, k33_72, k33_75, k33_76, k33_79, k33_82, k33_83, k33_85, k33_87, k33_90, k33_91, k33_92, k33_95, k33_96, k33_97, s_aastore, s_aload_n, s_anewarray, s_bipush, s_dup, s_goto, s_icmp_ge, s_iconst, s_iinc, s_iload_n, s_istore_n, s_new_1, s_new_5, s_new_6, s_new_8, s_newarray, s_objInit, s_return, s_sipush, sg_11_4, sp_11_0, sp_11_1, sp_11_10, sp_11_11, sp_11_12, sp_11_13, sp_11_14, sp_11_2, sp_11_3, sp_11_4, sp_11_5, sp_11_6, sp_11_7, sp_11_8, sp_11_9, en_24, c_23, k24_0, k24_1, k24_10, k24_13, k24_14, k24_17, k24_18, k24_19, k24_21, k24_24, k24_27, k24_28, k24_29, k24_32, k24_33, k24_34, k24_37, k24_38, k24_39, k24_4, k24_42, k24_43, k24_44, k24_47, k24_5, k24_7, s_ldc, s_new_7, s_null, sp_8_0, sp_8_1, sp_8_2, sp_8_3, sp_8_4, sp_8_5, en_23, k23_0, k23_1, k23_10, k23_11, k23_13, k23_14, k23_17, k23_18, k23_19, k23_22, k23_23, k23_25, k23_26, k23_29, k23_30, k23_31, k23_34, k23_35, k23_37, k23_38, k23_4, k23_41, k23_42, k23_43, k23_46, k23_47, k23_5, k23_50, k23_6, k23_9, s_idiv, s_irem, sp_7_0, sp_7_1, sp_7_2, sp_7_3, sp_7_4, en_12, k12_0, k12_1, k12_12, k12_13, k12_15, k12_17, k12_20, k12_21, k12_23, k12_25, k12_28, k12_29, k12_31, k12_33, k12_36, k12_37, k12_39, k12_4, k12_41, k12_44, k12_45, k12_46, k12_48, k12_5, k12_51, k12_52, k12_53, k12_55, k12_58, k12_59, k12_60, k12_62, k12_65, k12_66, k12_67, k12_7, k12_70, k12_71, k12_72, k12_75, k12_76, k12_77, k12_80, k12_9, sp_6_0, sp_6_1, sp_6_10, sp_6_2, sp_6_3, sp_6_4, sp_6_5, sp_6_6, sp_6_7, sp_6_8, sp_6_9, en_0, k0_0, k0_1, k0_10, k0_13, k0_14, k0_15, k0_18, k0_4, k0_5, k0_7, sp_1_0, sp_1_1, u1_d, h2, n_100000, n_10000, n_1000, n_10, Nat.reduceEqDiff, Int32.reduceToNatClampNeg, Nat.reduceMul, if_true, if_false]
  rw [← WP_eq]
  refine Eq.mpr (lp_init (n := 23) ?a1 ?a2 ?a3 ?a4 (by decide) (by decide) (by decide) 6 0 (by decide)) ?_
  case a1 => simp only [u1_d, h2, Nat.reduceEqDiff, if_false]
  case a2 => simp only [u1_d, Nat.reduceEqDiff, if_true, if_false]
  case a3 => simp only [u1_d, Nat.reduceEqDiff, if_true, if_false]
  case a4 => simp only [Nat.add_left_cancel_iff, u3_d, eq_self, false_and, and_false, and_self, if_true, if_false, Nat.reduceEqDiff]
  refine hQ _ _ _ _ ?_
  refine ⟨?_, ⟨?_, ?_, ?_⟩, ?_, ?_, ?_, ?_, ?_, ?_, ?_, ?_, ?_, ?_, ?_, ?_⟩
  · simp [fkL, xK, u1_d, h2]
  · simp [xK, u1_d]
  · simp [xK, u1_d]
  · intro a ha
    simp only [xK, u1_d]
    repeat rw [if_neg (by omega)]
  · simp [flL, u1_d]
  · simp [u1_d]
  · simp [frL, xR, u3_d]
  · simp [xR, u3_d]
  · unfold RuleIs
    simp [xI, u3_d]
  · intro w hw
    rcases (show w = 0 ∨ w = 1 ∨ w = 2 ∨ w = 3 ∨ w = 4 ∨ w = 5 by omega) with rfl | rfl | rfl | rfl | rfl | rfl <;> simp [xI, u3_d]
  · intro j j1 j2
    rcases (show j = 9 ∨ j = 10 ∨ j = 11 ∨ j = 12 ∨ j = 13 ∨ j = 14 by omega) with rfl | rfl | rfl | rfl | rfl | rfl <;> simp [xI, u3_d]
  · simp [xI, u3_d]
  · simp [xI, u3_d]
  · simp [xI, u3_d]
  · simp [xI, u3_d]
  · intro K hK
    funext a j
    rcases hK with rfl | rfl | rfl | rfl <;> simp [xI, u3_d]

set_option maxRecDepth 100000 in
set_option maxHeartbeats 4000000 in
theorem t_78 {d : Nat} {kd ln : Nat → Nat} {iv : Nat → Nat → Nat → Int32} {rv : Nat → Nat → Nat → Nat} {Q : Rt} (h29 : kd 29 = 12) (hQ : ∀ (kd' ln' : Nat → Nat) (rv' : Nat → Nat → Nat → Nat), (∀ q ∈ fkL, 30 ≤ q.1 → kd' q.1 = q.2) ∧ (∀ a, a < 30 ∨ 60 ≤ a → kd' a = kd a) ∧ (∀ q ∈ flL, 30 ≤ q.1 → ln' q.1 = q.2) ∧ (∀ a, a < 30 → ln' a = ln a) ∧ (∀ q ∈ frL, 29 ≤ q.2.1 → rv' q.1 q.2.1 q.2.2.1 = q.2.2.2) ∧ (∀ K, ¬ K = 12 → rv' K = rv K) → Q none ((60, kd', ln'), iv, rv')) : MW (d + 1) 78 [.inr 29] ((30, kd, ln), iv, rv) Q := by
  simp only [e_lI0, e_lR0, e_st0, e_lI1, e_lR1, e_st1, e_lI2, e_lR2, e_st2, e_lI3, e_lR3, e_st3, e_lI4, e_lR4, e_st4, e_lI5, e_lR5, e_st5, e_lI6, e_lR6, e_st6, e_lI7, e_lR7, e_st7, e_lI8, e_lR8, e_st8, e_swn, e_swc, e_sw0, e_sw1, e_sw2, e_sw3, e_sw4, e_sw5, e_sw6, e_sw7, e_sw8, e_sw9, Option.toList_some, Option.toList_none, List.cons_append, List.nil_append, List.length_cons, List.length_nil, Nat.reduceAdd, Nat.reduceLeDiff, Nat.zero_le, Nat.le_refl, true_and, and_true, WP_eq, Nat.reduceSub, if_true, if_false, Nat.reduceEqDiff, not_false_eq_true, i_10, i_01, Int32.reduceLT, Int32.reduceLE, true_or, or_true, ne_eq, en_78, k78_0, k78_1, k78_101, k78_103, k78_106, k78_107, k78_109, k78_111, k78_114, k78_115, k78_117, k78_119, k78_12, k78_122, k78_123, k78_125, k78_127, k78_13, k78_130, k78_131, k78_133, k78_135, k78_138, k78_139, k78_141, k78_143, k78_146, k78_147, k78_149, k78_15, k78_151, k78_154, k78_155, k78_157, k78_159, k78_162, k78_163, k78_165, k78_167, k78_17, k78_170, k78_171, k78_173, k78_175, k78_178, k78_179, k78_181, k78_183, k78_186, k78_187, k78_188, k78_190, k78_193, k78_194, k78_195, k78_197, k78_20, k78_200, k78_201, k78_202, k78_204, k78_207, k78_208, k78_21, k78_210, k78_212, k78_215, k78_216, k78_218, k78_220, k78_223, k78_224, k78_226, k78_228, k78_231, k78_232, k78_233, k78_235, k78_238, k78_239, k78_24, k78_241, k78_243, k78_246, k78_26, k78_29, k78_30, k78_33, k78_35, k78_38, k78_39, k78_4, k78_42, k78_44, k78_47, k78_48, k78_5, k78_51, k78_53, k78_56, k78_57, k78_60, k78_62, k78_65, k78_66, k78_69, k78_7, k78_71, k78_74, k78_75, k78_77, k78_79, k78_82, k78_83, k78_85, k78_87, k78_9, k78_90, k78_91, k78_93, k78_95, k78_98, k78_99, s_aload_n, s_bipush, s_iconst, s_newarray, s_objInit, s_return, s_sipush, sp_12_10, sp_12_12, sp_12_13, sp_12_14, sp_12_15, sp_12_16, sp_12_17, sp_12_18, sp_12_19, sp_12_2, sp_12_21, sp_12_22, sp_12_28, sp_12_29, sp_12_3, sp_12_30, sp_12_31, sp_12_34, sp_12_35, sp_12_36, sp_12_38, sp_12_39, sp_12_40, sp_12_41, sp_12_45, sp_12_5, sp_12_6, sp_12_7, sp_12_8, sp_12_9, u1_d, h29, Nat.reduceEqDiff, Int32.reduceToNatClampNeg, Nat.reduceMul, if_true, if_false]
  refine hQ _ _ _ ⟨?_, ?_, ?_, ?_, ?_, ?_⟩
  · simp [fkL, u1_d]
  · intro a ha
    simp only [u1_d]
    repeat rw [if_neg (by omega)]
  · simp [flL, u1_d]
  · intro a ha
    simp only [u1_d]
    repeat rw [if_neg (by omega)]
  · simp [frL, u3_d]
  · intro K hK
    simp only [u3_c hK]
