theorem bx_ext0 {f : Fn} {C : Nat} : ∀ q, (∀ t, t < q → f (C + t) = 0) → bx_sum f (C + q) = bx_sum f C
  | 0, _ => rfl
  | q + 1, h => by
    show bx_sum f (C + q) + f (C + q) = bx_sum f C
    rw [bx_ext0 q (fun t ht => h t (by omega)), h q (by omega), Int32.add_zero]
theorem bx_ext1 {f : Fn} {C : Nat} : ∀ q, (∀ t, t < q → f (C + t) = 1) → bx_sum f (C + q) = bx_sum f C + nI q
  | 0, _ => by rw [nI_0, Int32.add_zero]; rfl
  | q + 1, h => by
    show bx_sum f (C + q) + f (C + q) = bx_sum f C + nI (q + 1)
    rw [bx_ext1 q (fun t ht => h t (by omega)), h q (by omega), nI_succ, Int32.add_assoc]
set_option maxRecDepth 100000 in
set_option maxHeartbeats 4000000 in
theorem op_give {d : Nat} {x y : Int32} {L : Nat} {xs : Fn} {n : Nat} {kd ln : Nat → Nat} {iv : Nat → Nat → Nat → Int32} {rv : Nat → Nat → Nat → Nat} {S C Hn V E P T : Nat} {lst : Nat → Nat} (hI : Inv L xs n kd ln iv rv S C Hn V E P T lst) : Both (d + 15) 35 84 [.inl x, .inl y] L xs ((n, kd, ln), iv, rv) := by
  obtain ⟨⟨hk, hl, hr, hn, hkn, hL, hX⟩, hS, h1, h2, h3, h4, h5, h6, h7⟩ := id hI
  obtain ⟨z1, z2, z3, z4, z5, z6, z7, z8, z9, z10, z11, z12, z13, z14, z15, z16, z17, z18⟩ := id hS
  unfold Both
  have hS20 : S ≤ 20 := h1.1
  have hC4 : C ≤ 400 := h2.1
  have s1 := @sub1_le S
  have i2 : ¬ (10 : Int32) = 0 := by decide
  by_cases c1 : 0 ≤ x
  · by_cases c2 : nI S ≤ x
    · simp only [c1, c2, z1, z2, s1 (show S < 2 ^ 31 by omega), e_lI0, e_lR0, e_st0, e_lI1, e_lR1, e_st1, e_lI2, e_lR2, e_st2, e_lI3, e_lR3, e_st3, e_lI4, e_lR4, e_st4, e_lI5, e_lR5, e_st5, e_lI6, e_lR6, e_st6, e_lI7, e_lR7, e_st7, e_lI8, e_lR8, e_st8, e_swn, e_swc, e_sw0, e_sw1, e_sw2, e_sw3, e_sw4, e_sw5, e_sw6, e_sw7, e_sw8, e_sw9, Option.toList_some, Option.toList_none, List.cons_append, List.nil_append, List.length_cons, List.length_nil, Nat.reduceAdd, Nat.reduceLeDiff, Nat.zero_le, Nat.le_refl, true_and, and_true, WP_eq, Nat.reduceSub, if_true, if_false, Nat.reduceEqDiff, not_false_eq_true, i_10, i_01, Int32.reduceLT, Int32.reduceLE, true_or, or_true, ne_eq, fk_2 hk, fk_8 hk, fk_11 hk, fk_20 hk, fk_29 hk, fr_11_2_2 hr, fk_5 hk, fl_5 hl, fr_12_29_2 hr, fk_30 hk, fl_30 hl, fr_12_29_6 hr, fk_33 hk, fl_33 hl, fr_12_29_7 hr, fk_34 hk, fl_34 hl, fr_12_29_8 hr, fk_35 hk, fl_35 hl, en_35, c_64, c_8, k35_0, k35_1, k35_10, k35_100, k35_101, k35_102, k35_105, k35_106, k35_109, k35_11, k35_112, k35_113, k35_115, k35_118, k35_12, k35_120, k35_15, k35_16, k35_19, k35_2, k35_22, k35_23, k35_24, k35_25, k35_28, k35_30, k35_31, k35_32, k35_33, k35_35, k35_36, k35_38, k35_39, k35_42, k35_44, k35_45, k35_47, k35_49, k35_5, k35_52, k35_55, k35_56, k35_57, k35_58, k35_59, k35_6, k35_62, k35_63, k35_64, k35_67, k35_68, k35_69, k35_7, k35_72, k35_74, k35_75, k35_78, k35_79, k35_82, k35_86, k35_88, k35_91, k35_92, k35_95, k35_97, r_35, s_aastore, s_aload_n, s_astore_n, s_bipush, s_dup, s_goto, s_iadd, s_icmp_ge, s_icmp_le, s_icmp_lt, s_iconst, s_idiv, s_ifnull, s_iinc, s_iload, s_iload_n, s_irem, s_istore, s_new_2, s_sipush, sg_11_11, sg_11_2, sg_9_0, sg_9_1, sp_11_11, sp_9_0, sp_9_1, en_84, c_79, k84_0, k84_1, k84_100, k84_101, k84_102, k84_103, k84_106, k84_107, k84_11, k84_110, k84_111, k84_112, k84_113, k84_114, k84_117, k84_118, k84_119, k84_122, k84_125, k84_128, k84_129, k84_14, k84_15, k84_16, k84_19, k84_2, k84_22, k84_25, k84_26, k84_27, k84_28, k84_3, k84_31, k84_32, k84_33, k84_34, k84_35, k84_37, k84_38, k84_39, k84_42, k84_43, k84_44, k84_46, k84_47, k84_48, k84_49, k84_50, k84_53, k84_54, k84_55, k84_58, k84_6, k84_61, k84_62, k84_63, k84_64, k84_67, k84_68, k84_69, k84_7, k84_70, k84_71, k84_72, k84_73, k84_74, k84_78, k84_79, k84_8, k84_82, k84_83, k84_86, k84_87, k84_90, k84_91, k84_92, k84_93, k84_96, k84_97, r_84, s_dup2, s_iaload20, s_iastore, s_if_eq, s_if_ne, s_istore_n, s_isub, sg_12_1, sg_12_2, sg_12_4, sg_12_6, sg_12_7, sg_12_8, sp_12_4, L_subscriberAt hk hl hr, L_in, some_e, exists_eq_left', igt, ite_not, not_true_eq_false, le5, le99]
      exact ⟨S, C, Hn, V, E, P, T, lst, hI⟩
    · obtain ⟨i, hi, rfl⟩ := ix_ge (by omega) c1 c2
      have hin : vp_in (nI i) 20 := vp_in_nI (by omega) (by decide)
      have hcl : (nI i).toNatClampNeg = i := nI_clamp (by omega)
      have hkd := h1.2.1 i hi
      have hz : ¬ rv 39 3 i = 0 := hk.nz hkd (by decide)
      obtain ⟨f0, f4, f1, f2, f3⟩ := h1.2.2.2.1 i hi
      by_cases c3 : 1 ≤ y
      · by_cases c4 : y ≤ 1000
        · obtain ⟨m, hm31, rfl⟩ := nI_of (Int32.not_lt.mpr (Int32.le_trans (show (0 : Int32) ≤ 1 by decide) c3))
          have hm1 : 1 ≤ m := (nI_leI (a := 1) (b := m) (by decide) hm31).mp c3
          have hm2 : m ≤ 1000 := (nI_leI (a := m) (b := 1000) hm31 (by decide)).mp c4
          obtain ⟨c, hc, hcC⟩ := h1.2.2.2.2.2.2 i hi
          obtain ⟨q, hq⟩ : ∃ q, q = (c % 10 + m) / 10 := ⟨_, rfl⟩
          have e1 : (rmd (nI c) 10 + nI m) / 10 = nI q := by
            have a1 : rmd (nI c) 10 = nI (c % 10) := pk_rem (d := 10) (by omega) (by decide) (by decide)
            rw [a1, nI_add, hq]
            exact pk_div (d := 10) (by omega) (by decide) (by decide)
          have e2 : (nI c + nI m) / 10 - nI c / 10 = nI q := by
            have a1 : nI (c + m) / 10 = nI ((c + m) / 10) := pk_div (d := 10) (by omega) (by decide) (by decide)
            have a2 : nI c / 10 = nI (c / 10) := pk_div (d := 10) (by omega) (by decide) (by decide)
            rw [nI_add, a1, a2, pk_sub (by omega), hq]
            congr 1
            omega
          have e3 : nI C + nI q = nI (C + q) := nI_add C q
          have hq100 : q ≤ 100 := by omega
          by_cases c5 : nI (C + q) ≤ 400
          · have hCq : C + q ≤ 400 := (nI_leI (a := C + q) (b := 400) (by omega) (by decide)).mp c5
            simp only [c1, c2, c3, c4, z1, z5, hin, hcl, hkd, hz, f0, hc, e1, e3, c5, i2, e_lI0, e_lR0, e_st0, e_lI1, e_lR1, e_st1, e_lI2, e_lR2, e_st2, e_lI3, e_lR3, e_st3, e_lI4, e_lR4, e_st4, e_lI5, e_lR5, e_st5, e_lI6, e_lR6, e_st6, e_lI7, e_lR7, e_st7, e_lI8, e_lR8, e_st8, e_swn, e_swc, e_sw0, e_sw1, e_sw2, e_sw3, e_sw4, e_sw5, e_sw6, e_sw7, e_sw8, e_sw9, Option.toList_some, Option.toList_none, List.cons_append, List.nil_append, List.length_cons, List.length_nil, Nat.reduceAdd, Nat.reduceLeDiff, Nat.zero_le, Nat.le_refl, true_and, and_true, WP_eq, Nat.reduceSub, if_true, if_false, Nat.reduceEqDiff, not_false_eq_true, i_10, i_01, Int32.reduceLT, Int32.reduceLE, true_or, or_true, ne_eq, fk_2 hk, fk_8 hk, fk_11 hk, fk_20 hk, fk_29 hk, fr_11_2_2 hr, fk_5 hk, fl_5 hl, en_35, c_64, c_8, k35_0, k35_1, k35_10, k35_100, k35_101, k35_102, k35_105, k35_106, k35_109, k35_11, k35_112, k35_113, k35_115, k35_118, k35_12, k35_120, k35_15, k35_16, k35_19, k35_2, k35_22, k35_23, k35_24, k35_25, k35_28, k35_30, k35_31, k35_32, k35_33, k35_35, k35_36, k35_38, k35_39, k35_42, k35_44, k35_45, k35_47, k35_49, k35_5, k35_52, k35_55, k35_56, k35_57, k35_58, k35_59, k35_6, k35_62, k35_63, k35_64, k35_67, k35_68, k35_69, k35_7, k35_72, k35_74, k35_75, k35_78, k35_79, k35_82, k35_86, k35_88, k35_91, k35_92, k35_95, k35_97, r_35, s_aastore, s_aload_n, s_astore_n, s_bipush, s_dup, s_goto, s_iadd, s_icmp_ge, s_icmp_le, s_icmp_lt, s_iconst, s_idiv, s_ifnull, s_iinc, s_iload, s_iload_n, s_irem, s_istore, s_new_2, s_sipush, sg_11_11, sg_11_2, sg_9_0, sg_9_1, sp_11_11, sp_9_0, sp_9_1, L_subscriberAt hk hl hr, some_e, exists_eq_left', igt, ite_not, not_true_eq_false, le5, le99, Nat.add_left_cancel_iff, u3_d, eq_self, false_and, and_false, and_self, if_true, if_false, Nat.reduceEqDiff]
            rw [← WP_eq]
            refine Eq.mpr (lp_give (C := C) (q := q) (iv := u3 (u3 iv 9 (rv 39 3 i) 0 (nI c + nI m)) 9 (rv 39 3 i) 1 (iv 9 (rv 39 3 i) 1 + nI q)) (bc := 101) (bs := 606) hk hl hr hn (by omega) (by omega) hCq q 0 (by omega)) ?_
            obtain ⟨ivg, hgi⟩ : ∃ ivg, ivg = gI (u3 (u3 iv 9 (rv 39 3 i) 0 (nI c + nI m)) 9 (rv 39 3 i) 1 (iv 9 (rv 39 3 i) 1 + nI q)) n (nI i) q := ⟨_, rfl⟩
            rw [← hgi]
            have hkq := gK_fix hk hn q
            have hrq := gR_fix (n := n) (C := C) hr q
            have g20 : ivg 20 = iv 20 := by rw [hgi, gI_c (by decide), u3_c (by decide), u3_c (by decide)]
            have g12 : ivg 12 = iv 12 := by rw [hgi, gI_c (by decide), u3_c (by decide), u3_c (by decide)]
            have gK' : ∀ K, K ≠ 2 → K ≠ 9 → ivg K = iv K := fun K k1 k2 => by rw [hgi, gI_c k1, u3_c k2, u3_c k2]
            have g9 : ivg 9 = u3 (u3 iv 9 (rv 39 3 i) 0 (nI c + nI m)) 9 (rv 39 3 i) 1 (iv 9 (rv 39 3 i) 1 + nI q) 9 := by rw [hgi, gI_c (by decide)]
            have g2o : ∀ a, a < n → ivg 2 a = iv 2 a := fun a ha => by rw [hgi, gI_old ha, u3_c (by decide), u3_c (by decide)]
            have g2n : ∀ t, t < q → ivg 2 (n + t) 0 = nI i ∧ ivg 2 (n + t) 1 = 0 ∧ ivg 2 (n + t) 2 = -1 ∧ ivg 2 (n + t) 3 = -1 ∧ ivg 2 (n + t) 4 = 0 ∧ ivg 2 (n + t) 5 = 0 := fun t ht => by rw [hgi]; exact gI_new q ht
            clear hgi
            generalize hkk : gK kd n q = kd'
            generalize hrr : gR rv n C q = rv'
            rw [hkk] at hkq
            rw [hrr] at hrq
            have hk0 := hk
            have hr0 := hr
            have hk := hkq
            have hr := hrq
            simp only [c1, c2, c3, c4, z2, z6, hin, hcl, hc, e2, e3, c5, i2, g20, g12, s1 (show S < 2 ^ 31 by omega), e_lI0, e_lR0, e_st0, e_lI1, e_lR1, e_st1, e_lI2, e_lR2, e_st2, e_lI3, e_lR3, e_st3, e_lI4, e_lR4, e_st4, e_lI5, e_lR5, e_st5, e_lI6, e_lR6, e_st6, e_lI7, e_lR7, e_st7, e_lI8, e_lR8, e_st8, e_swn, e_swc, e_sw0, e_sw1, e_sw2, e_sw3, e_sw4, e_sw5, e_sw6, e_sw7, e_sw8, e_sw9, Option.toList_some, Option.toList_none, List.cons_append, List.nil_append, List.length_cons, List.length_nil, Nat.reduceAdd, Nat.reduceLeDiff, Nat.zero_le, Nat.le_refl, true_and, and_true, WP_eq, Nat.reduceSub, if_true, if_false, Nat.reduceEqDiff, not_false_eq_true, i_10, i_01, Int32.reduceLT, Int32.reduceLE, true_or, or_true, ne_eq, fk_2 hk, fk_8 hk, fk_11 hk, fk_20 hk, fk_29 hk, fr_12_29_2 hr, fk_30 hk, fl_30 hl, fr_12_29_6 hr, fk_33 hk, fl_33 hl, fr_12_29_7 hr, fk_34 hk, fl_34 hl, fr_12_29_8 hr, fk_35 hk, fl_35 hl, en_84, c_79, k84_0, k84_1, k84_100, k84_101, k84_102, k84_103, k84_106, k84_107, k84_11, k84_110, k84_111, k84_112, k84_113, k84_114, k84_117, k84_118, k84_119, k84_122, k84_125, k84_128, k84_129, k84_14, k84_15, k84_16, k84_19, k84_2, k84_22, k84_25, k84_26, k84_27, k84_28, k84_3, k84_31, k84_32, k84_33, k84_34, k84_35, k84_37, k84_38, k84_39, k84_42, k84_43, k84_44, k84_46, k84_47, k84_48, k84_49, k84_50, k84_53, k84_54, k84_55, k84_58, k84_6, k84_61, k84_62, k84_63, k84_64, k84_67, k84_68, k84_69, k84_7, k84_70, k84_71, k84_72, k84_73, k84_74, k84_78, k84_79, k84_8, k84_82, k84_83, k84_86, k84_87, k84_90, k84_91, k84_92, k84_93, k84_96, k84_97, r_84, s_aload_n, s_bipush, s_dup, s_dup2, s_goto, s_iadd, s_iaload20, s_iastore, s_icmp_ge, s_icmp_le, s_iconst, s_idiv, s_if_eq, s_if_ne, s_iinc, s_iload, s_iload_n, s_istore, s_istore_n, s_isub, s_sipush, sg_12_1, sg_12_2, sg_12_4, sg_12_6, sg_12_7, sg_12_8, sp_12_4, L_in, some_e, exists_eq_left', igt, ite_not, not_true_eq_false, le5, le99, Nat.add_left_cancel_iff, u3_d, eq_self, false_and, and_false, and_self, if_true, if_false, Nat.reduceEqDiff]
            rw [← WP_eq]
            refine Eq.mpr (lp_giveM (C := C) (q := q) (iv := u3 (u3 ivg 11 2 11 (nI (C + q))) 20 30 i (nI c + nI m)) hk hl hr ?hs hCq q 0 (by omega)) ?_
            case hs =>
              simp only [Nat.add_left_cancel_iff, u3_d, eq_self, false_and, and_false, and_self, if_true, if_false, Nat.reduceEqDiff]
              rw [g12]
              exact z6
            obtain ⟨ivm, hmi⟩ : ∃ ivm, ivm = mI (u3 (u3 ivg 11 2 11 (nI (C + q))) 20 30 i (nI c + nI m)) C (nI i) q := ⟨_, rfl⟩
            rw [← hmi]
            refine ⟨rfl, S, C + q, Hn, V, E, P, T, lst, ?_⟩
            have mK : ∀ K, K ≠ 20 → K ≠ 12 → K ≠ 11 → ivm K = ivg K := fun K k1 k2 k3 => by rw [hmi, mI_c k1 k2, u3_c k1, u3_c k3]
            have m11 : ∀ j, ivm 11 2 j = if j = 11 then nI (C + q) else iv 11 2 j := fun j => by
              rw [hmi, mI_c (by decide) (by decide), u3_c (by decide)]
              simp only [Nat.add_left_cancel_iff, u3_d, eq_self, false_and, and_false, and_self, if_true, if_false, Nat.reduceEqDiff, true_and]
              rw [gK' 11 (by decide) (by decide)]
            have m12 : ∀ j, j ≠ 4 → ivm 12 29 j = iv 12 29 j := fun j hj => by rw [hmi, mI_12 hj, u3_c (by decide), u3_c (by decide), g12]
            have m124 : ivm 12 29 4 = nI (C + q) := by
              rw [hmi]
              refine mI_4 ?_ q
              rw [u3_c (by decide), u3_c (by decide), g12]; exact z6
            have mA : ∀ a, a ≠ 33 → a ≠ 34 → a ≠ 35 → a ≠ 30 → ivm 20 a = iv 20 a := fun a a1 a2 a3 a4 => by rw [hmi, mI_a a1 a2 a3, u3_a a4, u3_c (by decide), g20]
            have m30 : ∀ k, ivm 20 30 k = if k = i then nI c + nI m else iv 20 30 k := fun k => by
              rw [hmi, mI_a (by decide) (by decide) (by decide)]
              simp only [Nat.add_left_cancel_iff, u3_d, eq_self, false_and, and_false, and_self, if_true, if_false, Nat.reduceEqDiff, true_and]
              rw [g20]
            have mO : ∀ a c', a ≠ 30 → c' < C → ivm 20 a c' = iv 20 a c' := fun a c' a1 hc' => by rw [hmi, mI_old hc', u3_a a1, u3_c (by decide), g20]
            have mN : ∀ t, t < q → ivm 20 33 (C + t) = nI i ∧ ivm 20 34 (C + t) = -1 ∧ ivm 20 35 (C + t) = -1 := fun t ht => by rw [hmi]; exact mI_new q ht
            clear hmi
            have rvK : ∀ K, K ≠ 32 → rv' K = rv K := fun K k1 => by rw [← hrr]; exact gR_c k1 q
            have rvO : ∀ c', c' < C → rv' 32 5 c' = rv 32 5 c' := fun c' hc' => by rw [← hrr]; exact gR_old hc' q
            have rvN : ∀ t, t < q → rv' 32 5 (C + t) = n + t := fun t ht => by rw [← hrr]; exact gR_new q ht
            have kdO : ∀ a, a < n → kd' a = kd a := fun a ha => by rw [← hkk]; exact gK_old ha q
            have kdN : ∀ t, t < q → kd' (n + t) = 2 := fun t ht => by rw [← hkk]; exact gK_new q ht
            have kdL : ∀ a, kd' a ≠ 0 → a < n + q := fun a ha => by rw [← hkk] at ha; exact gK_lt hkn q a ha
            have kdM : ∀ {c' a : Nat}, c' ≠ 0 → kd a = c' → kd' a = c' := fun {c' a} h0 h => by rw [kdO a (hkn a (by rw [h]; exact h0))]; exact h
            have cas : ∀ c', c' < C + q → c' < C ∨ ∃ t, t < q ∧ c' = C + t := fun c' h => by
              rcases Nat.lt_or_ge c' C with z | z
              · exact Or.inl z
              · exact Or.inr ⟨c' - C, by omega, by omega⟩
            unfold Inv Scal
            dsimp only
            simp (disch := decide) only [mK, gK', m11, m12, m124, mA, rvK]
            refine ⟨⟨hk, hl, hr, by omega, kdL, hL, hX⟩, ⟨z1, z2, z3, z4, by simp, trivial, z7, z8, z9, z10, z11, z12, z13, z14, z15, z16, z17, z18⟩, ?_, ?_, h3.kd fun a => kdM (by decide), h4.kd fun a => kdM (by decide), h5, h6.kd fun a => kdM (by decide), h7.kd fun a => kdM (by decide)⟩
            · obtain ⟨a1, a2, a3, a4, a5, a6, a7⟩ := h1
              refine ⟨a1, fun k hk' => kdM (by decide) (a2 k hk'), a3, fun k hk' => ?_, fun k hk' => ?_, a6, fun k hk' => ?_⟩
              · have sB : ∀ t, t < q → iv 20 32 (C + t) = 0 ∧ iv 20 36 (C + t) = 0 := fun t ht => ⟨(h2.2.2.2.2.2 _ (by omega)).1, (h2.2.2.2.2.2 _ (by omega)).2.1⟩
                have t2 : bx_sum (cnt2 (ivm 20 33) (iv 20 32) k) (C + q) = bx_sum (cnt2 (iv 20 33) (iv 20 32) k) C := by
                  rw [bx_ext0 q (fun t ht => by unfold cnt2; rw [(sB t ht).1]; simp only [i_02, if_false, ite_self])]
                  exact bx_congr fun c' hc' => by unfold cnt2; rw [mO 33 c' (by decide) hc']
                have t3 : bx_sum (cnt3 (ivm 20 33) (iv 20 36) k) (C + q) = bx_sum (cnt3 (iv 20 33) (iv 20 36) k) C := by
                  rw [bx_ext0 q (fun t ht => by unfold cnt3; rw [(sB t ht).2]; simp only [ite_self])]
                  exact bx_congr fun c' hc' => by unfold cnt3; rw [mO 33 c' (by decide) hc']
                have t1o : bx_sum (cnt1 (ivm 20 33) k) C = bx_sum (cnt1 (iv 20 33) k) C := bx_congr fun c' hc' => by unfold cnt1; rw [mO 33 c' (by decide) hc']
                obtain ⟨w0, w4, w1, w2, w3⟩ := a4 k hk'
                rw [t2, t3, g9, m30]
                by_cases e : k = i
                · subst e
                  simp only [Nat.add_left_cancel_iff, u3_d, eq_self, false_and, and_false, and_self, if_true, if_false, Nat.reduceEqDiff]
                  refine ⟨trivial, w4, ?_, w2, w3⟩
                  rw [bx_ext1 q (fun t ht => by unfold cnt1; rw [(mN t ht).1, if_pos rfl]), t1o, w1]
                · have hne : ¬ rv 39 3 k = rv 39 3 i := fun z => e (a3 k i hk' hi z)
                  simp only [Nat.add_left_cancel_iff, u3_d, eq_self, false_and, and_false, and_self, if_true, if_false, Nat.reduceEqDiff, hne, e]
                  refine ⟨w0, w4, ?_, w2, w3⟩
                  rw [bx_ext0 q (fun t ht => by
                    unfold cnt1
                    rw [(mN t ht).1, if_neg]
                    intro z
                    rw [nI_eq (by omega) (by omega)] at z
                    exact e z.symm), t1o, w1]
              · have hki : ¬ k = i := by omega
                rw [m30, if_neg hki]
                exact a5 k hk'
              · rw [m30]
                by_cases e : k = i
                · rw [if_pos e]
                  exact ⟨c + m, nI_add c m, by omega⟩
                · rw [if_neg e]
                  obtain ⟨c', b1, b2⟩ := a7 k hk'
                  exact ⟨c', b1, by omega⟩
            · obtain ⟨a1, a2, a3, a4, a5, a6⟩ := h2
              have hlt : ∀ c', c' < C → rv 32 5 c' < n := fun c' hc' => hkn _ (by rw [a2 c' hc']; decide)
              refine ⟨hCq, fun k hk' => ?_, fun j k hj hk' he => ?_, fun k hk' => ?_, fun k hk' => ?_, fun k hk' => a6 k (by omega)⟩
              · rcases cas k hk' with z | ⟨t, ht, rfl⟩
                · rw [rvO k z]; exact kdM (by decide) (a2 k z)
                · rw [rvN t ht]; exact kdN t ht
              · rcases cas j hj with zj | ⟨tj, htj, rfl⟩ <;> rcases cas k hk' with zk | ⟨tk, htk, rfl⟩
                · rw [rvO j zj, rvO k zk] at he; exact a3 j k zj zk he
                · rw [rvO j zj, rvN tk htk] at he
                  have := hlt j zj
                  omega
                · rw [rvN tj htj, rvO k zk] at he
                  have := hlt k zk
                  omega
                · rw [rvN tj htj, rvN tk htk] at he; omega
              · rcases cas k hk' with z | ⟨t, ht, rfl⟩
                · rw [rvO k z, g2o _ (hlt k z), mO 33 k (by decide) z, mO 34 k (by decide) z, mO 35 k (by decide) z]
                  exact a4 k z
                · obtain ⟨v0, v1, v2, v3, v4, v5⟩ := g2n t ht
                  obtain ⟨u0, u1', u2⟩ := mN t ht
                  obtain ⟨b0, b1, b2⟩ := a6 (C + t) (by omega)
                  rw [rvN t ht, v0, v1, v2, v3, v4, v5, u0, u1', u2, b0, b1, b2]
                  exact ⟨rfl, rfl, rfl, rfl, rfl, rfl⟩
              · rcases cas k hk' with z | ⟨t, ht, rfl⟩
                · rw [mO 33 k (by decide) z, mO 34 k (by decide) z]
                  exact a5 k z
                · obtain ⟨u0, u1', u2⟩ := mN t ht
                  obtain ⟨b0, b1, b2⟩ := a6 (C + t) (by omega)
                  rw [u0, b0, b1]
                  exact ⟨⟨i, hi, rfl⟩, Or.inl rfl, fun z => absurd z (by decide), fun _ => rfl⟩
          · simp only [c1, c2, c3, c4, z1, z2, z5, z6, hin, hcl, hkd, hz, f0, hc, e1, e2, e3, c5, i2, s1 (show S < 2 ^ 31 by omega), e_lI0, e_lR0, e_st0, e_lI1, e_lR1, e_st1, e_lI2, e_lR2, e_st2, e_lI3, e_lR3, e_st3, e_lI4, e_lR4, e_st4, e_lI5, e_lR5, e_st5, e_lI6, e_lR6, e_st6, e_lI7, e_lR7, e_st7, e_lI8, e_lR8, e_st8, e_swn, e_swc, e_sw0, e_sw1, e_sw2, e_sw3, e_sw4, e_sw5, e_sw6, e_sw7, e_sw8, e_sw9, Option.toList_some, Option.toList_none, List.cons_append, List.nil_append, List.length_cons, List.length_nil, Nat.reduceAdd, Nat.reduceLeDiff, Nat.zero_le, Nat.le_refl, true_and, and_true, WP_eq, Nat.reduceSub, if_true, if_false, Nat.reduceEqDiff, not_false_eq_true, i_10, i_01, Int32.reduceLT, Int32.reduceLE, true_or, or_true, ne_eq, fk_2 hk, fk_8 hk, fk_11 hk, fk_20 hk, fk_29 hk, fr_11_2_2 hr, fk_5 hk, fl_5 hl, fr_12_29_2 hr, fk_30 hk, fl_30 hl, fr_12_29_6 hr, fk_33 hk, fl_33 hl, fr_12_29_7 hr, fk_34 hk, fl_34 hl, fr_12_29_8 hr, fk_35 hk, fl_35 hl, en_35, c_64, c_8, k35_0, k35_1, k35_10, k35_100, k35_101, k35_102, k35_105, k35_106, k35_109, k35_11, k35_112, k35_113, k35_115, k35_118, k35_12, k35_120, k35_15, k35_16, k35_19, k35_2, k35_22, k35_23, k35_24, k35_25, k35_28, k35_30, k35_31, k35_32, k35_33, k35_35, k35_36, k35_38, k35_39, k35_42, k35_44, k35_45, k35_47, k35_49, k35_5, k35_52, k35_55, k35_56, k35_57, k35_58, k35_59, k35_6, k35_62, k35_63, k35_64, k35_67, k35_68, k35_69, k35_7, k35_72, k35_74, k35_75, k35_78, k35_79, k35_82, k35_86, k35_88, k35_91, k35_92, k35_95, k35_97, r_35, s_aastore, s_aload_n, s_astore_n, s_bipush, s_dup, s_goto, s_iadd, s_icmp_ge, s_icmp_le, s_icmp_lt, s_iconst, s_idiv, s_ifnull, s_iinc, s_iload, s_iload_n, s_irem, s_istore, s_new_2, s_sipush, sg_11_11, sg_11_2, sg_9_0, sg_9_1, sp_11_11, sp_9_0, sp_9_1, en_84, c_79, k84_0, k84_1, k84_100, k84_101, k84_102, k84_103, k84_106, k84_107, k84_11, k84_110, k84_111, k84_112, k84_113, k84_114, k84_117, k84_118, k84_119, k84_122, k84_125, k84_128, k84_129, k84_14, k84_15, k84_16, k84_19, k84_2, k84_22, k84_25, k84_26, k84_27, k84_28, k84_3, k84_31, k84_32, k84_33, k84_34, k84_35, k84_37, k84_38, k84_39, k84_42, k84_43, k84_44, k84_46, k84_47, k84_48, k84_49, k84_50, k84_53, k84_54, k84_55, k84_58, k84_6, k84_61, k84_62, k84_63, k84_64, k84_67, k84_68, k84_69, k84_7, k84_70, k84_71, k84_72, k84_73, k84_74, k84_78, k84_79, k84_8, k84_82, k84_83, k84_86, k84_87, k84_90, k84_91, k84_92, k84_93, k84_96, k84_97, r_84, s_dup2, s_iaload20, s_iastore, s_if_eq, s_if_ne, s_istore_n, s_isub, sg_12_1, sg_12_2, sg_12_4, sg_12_6, sg_12_7, sg_12_8, sp_12_4, L_subscriberAt hk hl hr, L_in, some_e, exists_eq_left', igt, ite_not, not_true_eq_false, le5, le99]
            exact ⟨S, C, Hn, V, E, P, T, lst, hI⟩
        · simp only [c1, c2, c3, c4, z1, z2, hin, hcl, hkd, hz, s1 (show S < 2 ^ 31 by omega), e_lI0, e_lR0, e_st0, e_lI1, e_lR1, e_st1, e_lI2, e_lR2, e_st2, e_lI3, e_lR3, e_st3, e_lI4, e_lR4, e_st4, e_lI5, e_lR5, e_st5, e_lI6, e_lR6, e_st6, e_lI7, e_lR7, e_st7, e_lI8, e_lR8, e_st8, e_swn, e_swc, e_sw0, e_sw1, e_sw2, e_sw3, e_sw4, e_sw5, e_sw6, e_sw7, e_sw8, e_sw9, Option.toList_some, Option.toList_none, List.cons_append, List.nil_append, List.length_cons, List.length_nil, Nat.reduceAdd, Nat.reduceLeDiff, Nat.zero_le, Nat.le_refl, true_and, and_true, WP_eq, Nat.reduceSub, if_true, if_false, Nat.reduceEqDiff, not_false_eq_true, i_10, i_01, Int32.reduceLT, Int32.reduceLE, true_or, or_true, ne_eq, fk_2 hk, fk_8 hk, fk_11 hk, fk_20 hk, fk_29 hk, fr_11_2_2 hr, fk_5 hk, fl_5 hl, fr_12_29_2 hr, fk_30 hk, fl_30 hl, fr_12_29_6 hr, fk_33 hk, fl_33 hl, fr_12_29_7 hr, fk_34 hk, fl_34 hl, fr_12_29_8 hr, fk_35 hk, fl_35 hl, en_35, c_64, c_8, k35_0, k35_1, k35_10, k35_100, k35_101, k35_102, k35_105, k35_106, k35_109, k35_11, k35_112, k35_113, k35_115, k35_118, k35_12, k35_120, k35_15, k35_16, k35_19, k35_2, k35_22, k35_23, k35_24, k35_25, k35_28, k35_30, k35_31, k35_32, k35_33, k35_35, k35_36, k35_38, k35_39, k35_42, k35_44, k35_45, k35_47, k35_49, k35_5, k35_52, k35_55, k35_56, k35_57, k35_58, k35_59, k35_6, k35_62, k35_63, k35_64, k35_67, k35_68, k35_69, k35_7, k35_72, k35_74, k35_75, k35_78, k35_79, k35_82, k35_86, k35_88, k35_91, k35_92, k35_95, k35_97, r_35, s_aastore, s_aload_n, s_astore_n, s_bipush, s_dup, s_goto, s_iadd, s_icmp_ge, s_icmp_le, s_icmp_lt, s_iconst, s_idiv, s_ifnull, s_iinc, s_iload, s_iload_n, s_irem, s_istore, s_new_2, s_sipush, sg_11_11, sg_11_2, sg_9_0, sg_9_1, sp_11_11, sp_9_0, sp_9_1, en_84, c_79, k84_0, k84_1, k84_100, k84_101, k84_102, k84_103, k84_106, k84_107, k84_11, k84_110, k84_111, k84_112, k84_113, k84_114, k84_117, k84_118, k84_119, k84_122, k84_125, k84_128, k84_129, k84_14, k84_15, k84_16, k84_19, k84_2, k84_22, k84_25, k84_26, k84_27, k84_28, k84_3, k84_31, k84_32, k84_33, k84_34, k84_35, k84_37, k84_38, k84_39, k84_42, k84_43, k84_44, k84_46, k84_47, k84_48, k84_49, k84_50, k84_53, k84_54, k84_55, k84_58, k84_6, k84_61, k84_62, k84_63, k84_64, k84_67, k84_68, k84_69, k84_7, k84_70, k84_71, k84_72, k84_73, k84_74, k84_78, k84_79, k84_8, k84_82, k84_83, k84_86, k84_87, k84_90, k84_91, k84_92, k84_93, k84_96, k84_97, r_84, s_dup2, s_iaload20, s_iastore, s_if_eq, s_if_ne, s_istore_n, s_isub, sg_12_1, sg_12_2, sg_12_4, sg_12_6, sg_12_7, sg_12_8, sp_12_4, L_subscriberAt hk hl hr, L_in, some_e, exists_eq_left', igt, ite_not, not_true_eq_false, le5, le99]
          exact ⟨S, C, Hn, V, E, P, T, lst, hI⟩
      · simp only [c1, c2, c3, z1, z2, hin, hcl, hkd, hz, s1 (show S < 2 ^ 31 by omega), e_lI0, e_lR0, e_st0, e_lI1, e_lR1, e_st1, e_lI2, e_lR2, e_st2, e_lI3, e_lR3, e_st3, e_lI4, e_lR4, e_st4, e_lI5, e_lR5, e_st5, e_lI6, e_lR6, e_st6, e_lI7, e_lR7, e_st7, e_lI8, e_lR8, e_st8, e_swn, e_swc, e_sw0, e_sw1, e_sw2, e_sw3, e_sw4, e_sw5, e_sw6, e_sw7, e_sw8, e_sw9, Option.toList_some, Option.toList_none, List.cons_append, List.nil_append, List.length_cons, List.length_nil, Nat.reduceAdd, Nat.reduceLeDiff, Nat.zero_le, Nat.le_refl, true_and, and_true, WP_eq, Nat.reduceSub, if_true, if_false, Nat.reduceEqDiff, not_false_eq_true, i_10, i_01, Int32.reduceLT, Int32.reduceLE, true_or, or_true, ne_eq, fk_2 hk, fk_8 hk, fk_11 hk, fk_20 hk, fk_29 hk, fr_11_2_2 hr, fk_5 hk, fl_5 hl, fr_12_29_2 hr, fk_30 hk, fl_30 hl, fr_12_29_6 hr, fk_33 hk, fl_33 hl, fr_12_29_7 hr, fk_34 hk, fl_34 hl, fr_12_29_8 hr, fk_35 hk, fl_35 hl, en_35, c_64, c_8, k35_0, k35_1, k35_10, k35_100, k35_101, k35_102, k35_105, k35_106, k35_109, k35_11, k35_112, k35_113, k35_115, k35_118, k35_12, k35_120, k35_15, k35_16, k35_19, k35_2, k35_22, k35_23, k35_24, k35_25, k35_28, k35_30, k35_31, k35_32, k35_33, k35_35, k35_36, k35_38, k35_39, k35_42, k35_44, k35_45, k35_47, k35_49, k35_5, k35_52, k35_55, k35_56, k35_57, k35_58, k35_59, k35_6, k35_62, k35_63, k35_64, k35_67, k35_68, k35_69, k35_7, k35_72, k35_74, k35_75, k35_78, k35_79, k35_82, k35_86, k35_88, k35_91, k35_92, k35_95, k35_97, r_35, s_aastore, s_aload_n, s_astore_n, s_bipush, s_dup, s_goto, s_iadd, s_icmp_ge, s_icmp_le, s_icmp_lt, s_iconst, s_idiv, s_ifnull, s_iinc, s_iload, s_iload_n, s_irem, s_istore, s_new_2, s_sipush, sg_11_11, sg_11_2, sg_9_0, sg_9_1, sp_11_11, sp_9_0, sp_9_1, en_84, c_79, k84_0, k84_1, k84_100, k84_101, k84_102, k84_103, k84_106, k84_107, k84_11, k84_110, k84_111, k84_112, k84_113, k84_114, k84_117, k84_118, k84_119, k84_122, k84_125, k84_128, k84_129, k84_14, k84_15, k84_16, k84_19, k84_2, k84_22, k84_25, k84_26, k84_27, k84_28, k84_3, k84_31, k84_32, k84_33, k84_34, k84_35, k84_37, k84_38, k84_39, k84_42, k84_43, k84_44, k84_46, k84_47, k84_48, k84_49, k84_50, k84_53, k84_54, k84_55, k84_58, k84_6, k84_61, k84_62, k84_63, k84_64, k84_67, k84_68, k84_69, k84_7, k84_70, k84_71, k84_72, k84_73, k84_74, k84_78, k84_79, k84_8, k84_82, k84_83, k84_86, k84_87, k84_90, k84_91, k84_92, k84_93, k84_96, k84_97, r_84, s_dup2, s_iaload20, s_iastore, s_if_eq, s_if_ne, s_istore_n, s_isub, sg_12_1, sg_12_2, sg_12_4, sg_12_6, sg_12_7, sg_12_8, sp_12_4, L_subscriberAt hk hl hr, L_in, some_e, exists_eq_left', igt, ite_not, not_true_eq_false, le5, le99]
        exact ⟨S, C, Hn, V, E, P, T, lst, hI⟩
  · simp only [c1, z1, z2, e_lI0, e_lR0, e_st0, e_lI1, e_lR1, e_st1, e_lI2, e_lR2, e_st2, e_lI3, e_lR3, e_st3, e_lI4, e_lR4, e_st4, e_lI5, e_lR5, e_st5, e_lI6, e_lR6, e_st6, e_lI7, e_lR7, e_st7, e_lI8, e_lR8, e_st8, e_swn, e_swc, e_sw0, e_sw1, e_sw2, e_sw3, e_sw4, e_sw5, e_sw6, e_sw7, e_sw8, e_sw9, Option.toList_some, Option.toList_none, List.cons_append, List.nil_append, List.length_cons, List.length_nil, Nat.reduceAdd, Nat.reduceLeDiff, Nat.zero_le, Nat.le_refl, true_and, and_true, WP_eq, Nat.reduceSub, if_true, if_false, Nat.reduceEqDiff, not_false_eq_true, i_10, i_01, Int32.reduceLT, Int32.reduceLE, true_or, or_true, ne_eq, fk_2 hk, fk_8 hk, fk_11 hk, fk_20 hk, fk_29 hk, fr_11_2_2 hr, fk_5 hk, fl_5 hl, fr_12_29_2 hr, fk_30 hk, fl_30 hl, fr_12_29_6 hr, fk_33 hk, fl_33 hl, fr_12_29_7 hr, fk_34 hk, fl_34 hl, fr_12_29_8 hr, fk_35 hk, fl_35 hl, en_35, c_64, c_8, k35_0, k35_1, k35_10, k35_100, k35_101, k35_102, k35_105, k35_106, k35_109, k35_11, k35_112, k35_113, k35_115, k35_118, k35_12, k35_120, k35_15, k35_16, k35_19, k35_2, k35_22, k35_23, k35_24, k35_25, k35_28, k35_30, k35_31, k35_32, k35_33, k35_35, k35_36, k35_38, k35_39, k35_42, k35_44, k35_45, k35_47, k35_49, k35_5, k35_52, k35_55, k35_56, k35_57, k35_58, k35_59, k35_6, k35_62, k35_63, k35_64, k35_67, k35_68, k35_69, k35_7, k35_72, k35_74, k35_75, k35_78, k35_79, k35_82, k35_86, k35_88, k35_91, k35_92, k35_95, k35_97, r_35, s_aastore, s_aload_n, s_astore_n, s_bipush, s_dup, s_goto, s_iadd, s_icmp_ge, s_icmp_le, s_icmp_lt, s_iconst, s_idiv, s_ifnull, s_iinc, s_iload, s_iload_n, s_irem, s_istore, s_new_2, s_sipush, sg_11_11, sg_11_2, sg_9_0, sg_9_1, sp_11_11, sp_9_0, sp_9_1, en_84, c_79, k84_0, k84_1, k84_100, k84_101, k84_102, k84_103, k84_106, k84_107, k84_11, k84_110, k84_111, k84_112, k84_113, k84_114, k84_117, k84_118, k84_119, k84_122, k84_125, k84_128, k84_129, k84_14, k84_15, k84_16, k84_19, k84_2, k84_22, k84_25, k84_26, k84_27, k84_28, k84_3, k84_31, k84_32, k84_33, k84_34, k84_35, k84_37, k84_38, k84_39, k84_42, k84_43, k84_44, k84_46, k84_47, k84_48, k84_49, k84_50, k84_53, k84_54, k84_55, k84_58, k84_6, k84_61, k84_62, k84_63, k84_64, k84_67, k84_68, k84_69, k84_7, k84_70, k84_71, k84_72, k84_73, k84_74, k84_78, k84_79, k84_8, k84_82, k84_83, k84_86, k84_87, k84_90, k84_91, k84_92, k84_93, k84_96, k84_97, r_84, s_dup2, s_iaload20, s_iastore, s_if_eq, s_if_ne, s_istore_n, s_isub, sg_12_1, sg_12_2, sg_12_4, sg_12_6, sg_12_7, sg_12_8, sp_12_4, L_subscriberAt hk hl hr, L_in, some_e, exists_eq_left', igt, ite_not, not_true_eq_false, le5, le99]
    exact ⟨S, C, Hn, V, E, P, T, lst, hI⟩
