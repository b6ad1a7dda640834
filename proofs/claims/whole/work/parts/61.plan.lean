/-! planRounds: the houses that wait, the visitors of the ward -/
def PH (p : Nat → Bool) (i : Nat) (iv0 iv : Nat → Nat → Nat → Int32) : Prop := CF iv0 iv ∧ iv 6 11 8 = nI (sc p i).1 ∧ iv 6 11 9 = 0 ∧ iv 6 11 10 = 600 ∧ ∀ k, k < (sc p i).1 → iv 20 12 k = nI ((sc p i).2 k) ∧ iv 20 13 k = iv0 20 39 ((sc p i).2 k)
set_option maxRecDepth 100000 in
set_option maxHeartbeats 4000000 in
theorem lp_plan1 {d Hn a : Nat} {wk what t w : Int32} {fo ne go at_ fe : Fn} {n : Nat} {kd ln : Nat → Nat} {iv0 : Nat → Nat → Nat → Int32} {rv : Nat → Nat → Nat → Nat} {Q : Rt} {bc bs : Nat} (hk : FixK kd) (hl : FixL ln) (hr : FixR rv) (h3 : CHouse Hn kd (rv 34 4) (iv0 4) (iv0 20 38) (iv0 20 39) fo ne (iv0 20 42) go at_ fe) (hHn : iv0 11 2 10 = nI Hn) (hka : kd a = 7) (ha : RuleIs (iv0 7) a wk what) (ht : iv0 11 2 13 = t) {p : Nat → Bool} (hp : p = wtg (iv0 20 38) (iv0 20 42) what t w)
    (hQ1 : 6 < (sc p Hn).1 → ∀ iv', CF iv0 iv' → Q (some (.inl 0)) ((n, kd, ln), iv', rv))
    (hQ2 : (sc p Hn).1 ≤ 6 → ∀ iv' l4, PH p Hn iv0 iv' → WPc (MW (d + 1)) 77 Q 80 [some (.inr 2), some (.inl w), some (.inr a), some (.inl (nI Hn)), l4] [] ((n, kd, ln), iv', rv) bc bs) :
    ∀ k i iv l4, i + k = Hn → (sc p i).1 ≤ 6 → PH p i iv0 iv → WPc (MW (d + 1)) 77 Q 21 [some (.inr 2), some (.inl w), some (.inr a), some (.inl (nI i)), l4] [] ((n, kd, ln), iv, rv) bc bs := by
  have hH := h3.1
  intro k
  induction k with
  | zero =>
    intro i iv l4 hi h6 hP
    obtain rfl : i = Hn := by omega
    have g : iv 11 2 10 = nI i := by rw [hP.1.1 11 (by decide) (by decide)]; exact hHn
    rw [WP_eq, k77_21]
    simp only [e_lI0, e_lR0, e_st0, e_lI1, e_lR1, e_st1, e_lI2, e_lR2, e_st2, e_lI3, e_lR3, e_st3, e_lI4, e_lR4, e_st4, e_lI5, e_lR5, e_st5, e_lI6, e_lR6, e_st6, e_lI7, e_lR7, e_st7, e_lI8, e_lR8, e_st8, e_swn, e_swc, e_sw0, e_sw1, e_sw2, e_sw3, e_sw4, e_sw5, e_sw6, e_sw7, e_sw8, e_sw9, Option.toList_some, Option.toList_none, List.cons_append, List.nil_append, List.length_cons, List.length_nil, Nat.reduceAdd, Nat.reduceLeDiff, Nat.zero_le, Nat.le_refl, true_and, and_true, WP_eq, Nat.reduceSub, if_true, if_false, Nat.reduceEqDiff, not_false_eq_true, i_10, i_01, Int32.reduceLT, Int32.reduceLE, true_or, or_true, ne_eq, fk_2 hk, fk_8 hk, fk_11 hk, fk_20 hk, fk_29 hk, fr_11_2_5 hr, fr_11_2_6 hr, fr_11_2_1 hr, fk_4 hk, fl_4 hl, fr_11_2_3 hr, fk_6 hk, fl_6 hl, en_77, c_13, c_14, c_15, c_16, c_30, c_70, k77_0, k77_1, k77_100, k77_103, k77_104, k77_107, k77_108, k77_109, k77_11, k77_112, k77_113, k77_114, k77_117, k77_12, k77_120, k77_124, k77_127, k77_13, k77_130, k77_16, k77_19, k77_20, k77_22, k77_23, k77_26, k77_29, k77_30, k77_33, k77_34, k77_35, k77_37, k77_39, k77_4, k77_42, k77_43, k77_46, k77_47, k77_49, k77_5, k77_50, k77_53, k77_56, k77_57, k77_60, k77_61, k77_63, k77_66, k77_69, k77_72, k77_73, k77_74, k77_77, k77_8, k77_81, k77_83, k77_84, k77_87, k77_90, k77_91, k77_94, k77_95, k77_96, k77_99, r_77, s_aaload, s_aload, s_aload_n, s_astore, s_astore_n, s_goto, s_icmp_ge, s_icmp_ne, s_iconst, s_if_ne, s_iinc, s_iload_n, s_istore_n, sg_10_0, sg_11_1, sg_11_10, sg_11_12, sg_11_13, sg_11_3, sg_11_5, sg_11_6, sg_4_0, sg_4_1, g, nI_self_le]
    rw [← WP_eq]
    exact hQ2 h6 iv l4 hP
  | succ k ih =>
    intro i iv l4 hi h6 hP
    obtain ⟨hF, q8, q9, q10, q12⟩ := id hP
    have hiH : i < Hn := by omega
    have g : iv 11 2 10 = nI Hn := by rw [hF.1 11 (by decide) (by decide)]; exact hHn
    have c1 : ¬ nI Hn ≤ nI i := nI_ge hiH (by omega)
    have hin : vp_in (nI i) 30 := vp_in_nI (by omega) (by decide)
    have hcl : (nI i).toNatClampNeg = i := nI_clamp (by omega)
    have hkd := h3.2.1 i hiH
    obtain ⟨f0, f1, f2, f3, f4, f5, -⟩ := h3.2.2.2.1 i hiH
    have g4 : iv 4 = iv0 4 := hF.1 4 (by decide) (by decide)
    have g7 : iv 7 = iv0 7 := hF.1 7 (by decide) (by decide)
    have g42 : iv 20 42 = iv0 20 42 := hF.2 42 (by decide)
    have e0 : iv 4 (rv 34 4 i) 0 = iv0 20 38 i := by rw [g4]; exact f0
    have e1 : iv 4 (rv 34 4 i) 1 = iv0 20 39 i := by rw [g4]; exact f1
    have LH : ∀ (d : Nat) (Q : Rt), MW (d + 1) 70 [.inr 2, .inr (rv 34 4 i), .inr a] ((n, kd, ln), iv, rv) Q = if iv0 20 42 i = -1 then Q (some (.inl 0)) ((n, kd, ln), iv, rv) else if rmd what 1000 ≤ t - iv0 20 42 i then Q (some (.inl 0)) ((n, kd, ln), iv, rv) else Q (some (.inl 1)) ((n, kd, ln), iv, rv) := fun d Q => by
      rw [← g42]
      exact L_lookHolds (Hn := 0) (wk := wk) (wd := fun _ => 0) (pl := fun _ => 0) (go := fun _ => 0) (at_ := fun _ => 0) (fe := fun _ => 0) hk hl hr hkd hka (by rw [g7]; exact ha) (by rw [g4, g42]; exact f5) (by rw [hF.1 11 (by decide) (by decide)]; exact ht)
    rw [WP_eq, k77_21]
    by_cases sel : p i = true
    · have s0 : iv0 20 38 i = w ∧ (iv0 20 42 i = -1 ∨ rmd what 1000 ≤ t - iv0 20 42 i) := by rw [hp] at sel; exact of_decide_eq_true sel
      have LN : ∀ (d : Nat) (Q : Rt), MW (d + 1) 70 [.inr 2, .inr (rv 34 4 i), .inr a] ((n, kd, ln), iv, rv) Q = Q (some (.inl 0)) ((n, kd, ln), iv, rv) := fun d Q => by
        rw [LH]
        by_cases z : iv0 20 42 i = -1
        · rw [if_pos z]
        · rw [if_neg z, if_pos (s0.2.resolve_left z)]
      have s1 := s0.1
      by_cases c6 : (sc p i).1 = 6
      · have z6 : ¬ iv 6 11 8 < 6 := by rw [q8, c6]; decide
        simp only [e_lI0, e_lR0, e_st0, e_lI1, e_lR1, e_st1, e_lI2, e_lR2, e_st2, e_lI3, e_lR3, e_st3, e_lI4, e_lR4, e_st4, e_lI5, e_lR5, e_st5, e_lI6, e_lR6, e_st6, e_lI7, e_lR7, e_st7, e_lI8, e_lR8, e_st8, e_swn, e_swc, e_sw0, e_sw1, e_sw2, e_sw3, e_sw4, e_sw5, e_sw6, e_sw7, e_sw8, e_sw9, Option.toList_some, Option.toList_none, List.cons_append, List.nil_append, List.length_cons, List.length_nil, Nat.reduceAdd, Nat.reduceLeDiff, Nat.zero_le, Nat.le_refl, true_and, and_true, WP_eq, Nat.reduceSub, if_true, if_false, Nat.reduceEqDiff, not_false_eq_true, i_10, i_01, Int32.reduceLT, Int32.reduceLE, true_or, or_true, ne_eq, fk_2 hk, fk_8 hk, fk_11 hk, fk_20 hk, fk_29 hk, fr_11_2_5 hr, fr_11_2_6 hr, fr_11_2_1 hr, fk_4 hk, fl_4 hl, fr_11_2_3 hr, fk_6 hk, fl_6 hl, fr_6_11_0 hr, fk_12 hk, fl_12 hl, fr_6_11_1 hr, fk_13 hk, fl_13 hl, en_77, c_13, c_14, c_15, c_16, c_30, c_70, k77_0, k77_1, k77_100, k77_103, k77_104, k77_107, k77_108, k77_109, k77_11, k77_112, k77_113, k77_114, k77_117, k77_12, k77_120, k77_124, k77_127, k77_13, k77_130, k77_16, k77_19, k77_20, k77_22, k77_23, k77_26, k77_29, k77_30, k77_33, k77_34, k77_35, k77_37, k77_39, k77_4, k77_42, k77_43, k77_46, k77_47, k77_49, k77_5, k77_50, k77_53, k77_56, k77_57, k77_60, k77_61, k77_63, k77_66, k77_69, k77_72, k77_73, k77_74, k77_77, k77_8, k77_81, k77_83, k77_84, k77_87, k77_90, k77_91, k77_94, k77_95, k77_96, k77_99, r_77, s_aaload, s_aload, s_aload_n, s_astore, s_astore_n, s_goto, s_icmp_ge, s_icmp_ne, s_iconst, s_if_ne, s_iinc, s_iload_n, s_istore_n, sg_10_0, sg_11_1, sg_11_10, sg_11_12, sg_11_13, sg_11_3, sg_11_5, sg_11_6, sg_4_0, sg_4_1, en_14, k14_0, k14_1, k14_10, k14_11, k14_12, k14_15, k14_16, k14_19, k14_20, k14_21, k14_22, k14_25, k14_26, k14_29, k14_30, k14_31, k14_32, k14_33, k14_36, k14_37, k14_38, k14_4, k14_41, k14_42, k14_6, k14_9, r_14, s_bipush, s_dup, s_iadd, s_iastore, s_icmp_lt, sg_6_0, sg_6_1, sg_6_8, sp_6_8, g, c1, hin, hcl, hkd, e0, s1, e1, LN, z6]
        refine hQ1 ?_ iv hF
        have h9 := sc_le (p := p) Hn (show i + 1 ≤ Hn by omega)
        rw [sc_t sel] at h9
        have h9 : (sc p i).1 + 1 ≤ _ := h9
        omega
      · have z6 : nI (sc p i).1 < 6 := nI_lt (b := 6) (by omega) (by decide)
        have v1 : vp_in (nI (sc p i).1) 6 := vp_in_nI (by omega) (by decide)
        have v2 : (nI (sc p i).1).toNatClampNeg = (sc p i).1 := nI_clamp (by omega)
        simp only [e_lI0, e_lR0, e_st0, e_lI1, e_lR1, e_st1, e_lI2, e_lR2, e_st2, e_lI3, e_lR3, e_st3, e_lI4, e_lR4, e_st4, e_lI5, e_lR5, e_st5, e_lI6, e_lR6, e_st6, e_lI7, e_lR7, e_st7, e_lI8, e_lR8, e_st8, e_swn, e_swc, e_sw0, e_sw1, e_sw2, e_sw3, e_sw4, e_sw5, e_sw6, e_sw7, e_sw8, e_sw9, Option.toList_some, Option.toList_none, List.cons_append, List.nil_append, List.length_cons, List.length_nil, Nat.reduceAdd, Nat.reduceLeDiff, Nat.zero_le, Nat.le_refl, true_and, and_true, WP_eq, Nat.reduceSub, if_true, if_false, Nat.reduceEqDiff, not_false_eq_true, i_10, i_01, Int32.reduceLT, Int32.reduceLE, true_or, or_true, ne_eq, fk_2 hk, fk_8 hk, fk_11 hk, fk_20 hk, fk_29 hk, fr_11_2_5 hr, fr_11_2_6 hr, fr_11_2_1 hr, fk_4 hk, fl_4 hl, fr_11_2_3 hr, fk_6 hk, fl_6 hl, fr_6_11_0 hr, fk_12 hk, fl_12 hl, fr_6_11_1 hr, fk_13 hk, fl_13 hl, en_77, c_13, c_14, c_15, c_16, c_30, c_70, k77_0, k77_1, k77_100, k77_103, k77_104, k77_107, k77_108, k77_109, k77_11, k77_112, k77_113, k77_114, k77_117, k77_12, k77_120, k77_124, k77_127, k77_13, k77_130, k77_16, k77_19, k77_20, k77_22, k77_23, k77_26, k77_29, k77_30, k77_33, k77_34, k77_35, k77_37, k77_39, k77_4, k77_42, k77_43, k77_46, k77_47, k77_49, k77_5, k77_50, k77_53, k77_56, k77_57, k77_60, k77_61, k77_63, k77_66, k77_69, k77_72, k77_73, k77_74, k77_77, k77_8, k77_81, k77_83, k77_84, k77_87, k77_90, k77_91, k77_94, k77_95, k77_96, k77_99, r_77, s_aaload, s_aload, s_aload_n, s_astore, s_astore_n, s_goto, s_icmp_ge, s_icmp_ne, s_iconst, s_if_ne, s_iinc, s_iload_n, s_istore_n, sg_10_0, sg_11_1, sg_11_10, sg_11_12, sg_11_13, sg_11_3, sg_11_5, sg_11_6, sg_4_0, sg_4_1, en_14, k14_0, k14_1, k14_10, k14_11, k14_12, k14_15, k14_16, k14_19, k14_20, k14_21, k14_22, k14_25, k14_26, k14_29, k14_30, k14_31, k14_32, k14_33, k14_36, k14_37, k14_38, k14_4, k14_41, k14_42, k14_6, k14_9, r_14, s_bipush, s_dup, s_iadd, s_iastore, s_icmp_lt, sg_6_0, sg_6_1, sg_6_8, sp_6_8, g, c1, hin, hcl, hkd, e0, s1, e1, LN, q8, z6, v1, v2, Nat.add_left_cancel_iff, u3_d, eq_self, false_and, and_false, and_self, if_true, if_false, Nat.reduceEqDiff]
        rw [← WP_eq, nI_1, nI_1]
        refine ih (i + 1) _ _ (by omega) ?_ ⟨⟨fun K k1 k2 => ?_, fun b b1 => ?_⟩, ?_, ?_, ?_, fun j hj => ?_⟩
        · rw [sc_t sel]
          show (sc p i).1 + 1 ≤ 6
          omega
        · rw [u3_c k1, u3_c k2, u3_c k2]; exact hF.1 K k1 k2
        · rw [u3_c (by decide), u3_a (by omega), u3_a (by omega)]; exact hF.2 b b1
        · rw [u3_s, sc_t sel]
        · rw [u3_j (by decide), u3_c (by decide), u3_c (by decide)]; exact q9
        · rw [u3_j (by decide), u3_c (by decide), u3_c (by decide)]; exact q10
        · rw [sc_t sel] at hj ⊢
          have hj : j < (sc p i).1 + 1 := hj
          rw [u3_c (by decide)]
          show _ = nI (va_up (sc p i).2 (sc p i).1 i j) ∧ _ = iv0 20 39 (va_up (sc p i).2 (sc p i).1 i j)
          refine ⟨?_, ?_⟩
          · rw [u3_a (by decide)]
            by_cases e : j = (sc p i).1
            · rw [e, u3_s, up_s]
            · rw [u3_j e, up_n e]; exact (q12 j (by omega)).1
          · by_cases e : j = (sc p i).1
            · rw [e, u3_s, up_s]
            · rw [u3_j e, u3_a (by decide), up_n e]; exact (q12 j (by omega)).2
    · have hP' : PH p (i + 1) iv0 iv := by unfold PH; rw [sc_f sel]; exact hP
      have h6' : (sc p (i + 1)).1 ≤ 6 := by rw [sc_f sel]; exact h6
      by_cases c2 : iv0 20 38 i = w
      · have n1 : ¬ iv0 20 42 i = -1 := fun z => sel (by rw [hp]; exact decide_eq_true ⟨c2, Or.inl z⟩)
        have n2 : ¬ rmd what 1000 ≤ t - iv0 20 42 i := fun z => sel (by rw [hp]; exact decide_eq_true ⟨c2, Or.inr z⟩)
        simp only [e_lI0, e_lR0, e_st0, e_lI1, e_lR1, e_st1, e_lI2, e_lR2, e_st2, e_lI3, e_lR3, e_st3, e_lI4, e_lR4, e_st4, e_lI5, e_lR5, e_st5, e_lI6, e_lR6, e_st6, e_lI7, e_lR7, e_st7, e_lI8, e_lR8, e_st8, e_swn, e_swc, e_sw0, e_sw1, e_sw2, e_sw3, e_sw4, e_sw5, e_sw6, e_sw7, e_sw8, e_sw9, Option.toList_some, Option.toList_none, List.cons_append, List.nil_append, List.length_cons, List.length_nil, Nat.reduceAdd, Nat.reduceLeDiff, Nat.zero_le, Nat.le_refl, true_and, and_true, WP_eq, Nat.reduceSub, if_true, if_false, Nat.reduceEqDiff, not_false_eq_true, i_10, i_01, Int32.reduceLT, Int32.reduceLE, true_or, or_true, ne_eq, fk_2 hk, fk_8 hk, fk_11 hk, fk_20 hk, fk_29 hk, fr_11_2_5 hr, fr_11_2_6 hr, fr_11_2_1 hr, fk_4 hk, fl_4 hl, fr_11_2_3 hr, fk_6 hk, fl_6 hl, en_77, c_13, c_14, c_15, c_16, c_30, c_70, k77_0, k77_1, k77_100, k77_103, k77_104, k77_107, k77_108, k77_109, k77_11, k77_112, k77_113, k77_114, k77_117, k77_12, k77_120, k77_124, k77_127, k77_13, k77_130, k77_16, k77_19, k77_20, k77_22, k77_23, k77_26, k77_29, k77_30, k77_33, k77_34, k77_35, k77_37, k77_39, k77_4, k77_42, k77_43, k77_46, k77_47, k77_49, k77_5, k77_50, k77_53, k77_56, k77_57, k77_60, k77_61, k77_63, k77_66, k77_69, k77_72, k77_73, k77_74, k77_77, k77_8, k77_81, k77_83, k77_84, k77_87, k77_90, k77_91, k77_94, k77_95, k77_96, k77_99, r_77, s_aaload, s_aload, s_aload_n, s_astore, s_astore_n, s_goto, s_icmp_ge, s_icmp_ne, s_iconst, s_if_ne, s_iinc, s_iload_n, s_istore_n, sg_10_0, sg_11_1, sg_11_10, sg_11_12, sg_11_13, sg_11_3, sg_11_5, sg_11_6, sg_4_0, sg_4_1, g, c1, hin, hcl, hkd, e0, c2, LH, n1, n2]
        rw [← WP_eq, nI_1]
        exact ih (i + 1) _ _ (by omega) h6' hP'
      · simp only [e_lI0, e_lR0, e_st0, e_lI1, e_lR1, e_st1, e_lI2, e_lR2, e_st2, e_lI3, e_lR3, e_st3, e_lI4, e_lR4, e_st4, e_lI5, e_lR5, e_st5, e_lI6, e_lR6, e_st6, e_lI7, e_lR7, e_st7, e_lI8, e_lR8, e_st8, e_swn, e_swc, e_sw0, e_sw1, e_sw2, e_sw3, e_sw4, e_sw5, e_sw6, e_sw7, e_sw8, e_sw9, Option.toList_some, Option.toList_none, List.cons_append, List.nil_append, List.length_cons, List.length_nil, Nat.reduceAdd, Nat.reduceLeDiff, Nat.zero_le, Nat.le_refl, true_and, and_true, WP_eq, Nat.reduceSub, if_true, if_false, Nat.reduceEqDiff, not_false_eq_true, i_10, i_01, Int32.reduceLT, Int32.reduceLE, true_or, or_true, ne_eq, fk_2 hk, fk_8 hk, fk_11 hk, fk_20 hk, fk_29 hk, fr_11_2_5 hr, fr_11_2_6 hr, fr_11_2_1 hr, fk_4 hk, fl_4 hl, fr_11_2_3 hr, fk_6 hk, fl_6 hl, en_77, c_13, c_14, c_15, c_16, c_30, c_70, k77_0, k77_1, k77_100, k77_103, k77_104, k77_107, k77_108, k77_109, k77_11, k77_112, k77_113, k77_114, k77_117, k77_12, k77_120, k77_124, k77_127, k77_13, k77_130, k77_16, k77_19, k77_20, k77_22, k77_23, k77_26, k77_29, k77_30, k77_33, k77_34, k77_35, k77_37, k77_39, k77_4, k77_42, k77_43, k77_46, k77_47, k77_49, k77_5, k77_50, k77_53, k77_56, k77_57, k77_60, k77_61, k77_63, k77_66, k77_69, k77_72, k77_73, k77_74, k77_77, k77_8, k77_81, k77_83, k77_84, k77_87, k77_90, k77_91, k77_94, k77_95, k77_96, k77_99, r_77, s_aaload, s_aload, s_aload_n, s_astore, s_astore_n, s_goto, s_icmp_ge, s_icmp_ne, s_iconst, s_if_ne, s_iinc, s_iload_n, s_istore_n, sg_10_0, sg_11_1, sg_11_10, sg_11_12, sg_11_13, sg_11_3, sg_11_5, sg_11_6, sg_4_0, sg_4_1, g, c1, hin, hcl, hkd, e0, c2]
        rw [← WP_eq, nI_1]
        exact ih (i + 1) _ _ (by omega) h6' hP'
def PVF (iv1 iv : Nat → Nat → Nat → Int32) : Prop := (∀ K, K ≠ 6 → K ≠ 20 → iv K = iv1 K) ∧ (∀ a, a ≠ 17 → a ≠ 18 → a ≠ 19 → iv 20 a = iv1 20 a) ∧ (∀ j, j ≠ 9 → iv 6 11 j = iv1 6 11 j)
def PVs (p : Nat → Bool) (i : Nat) (iv1 iv : Nat → Nat → Nat → Int32) : Prop := PVF iv1 iv ∧ iv 6 11 9 = nI (sc p i).1 ∧ ∀ k, k < (sc p i).1 → iv 20 17 k = nI ((sc p i).2 k) ∧ iv 20 18 k = iv1 20 53 ((sc p i).2 k) ∧ iv 20 19 k = iv1 20 54 ((sc p i).2 k)
set_option maxRecDepth 100000 in
set_option maxHeartbeats 4000000 in
theorem lp_plan2 {d V a : Nat} {w : Int32} {l4 : LV} {n : Nat} {kd ln : Nat → Nat} {iv1 : Nat → Nat → Nat → Int32} {rv : Nat → Nat → Nat → Nat} {Q : Rt} {bc bs : Nat} (hk : FixK kd) (hl : FixL ln) (hr : FixR rv) (h6 : CVis V kd (rv 40 6) (iv1 10) (iv1 20 52) (iv1 20 53) (iv1 20 54)) (hV : iv1 11 2 12 = nI V) {p : Nat → Bool} (hp : p = vsl (iv1 20 52) w)
    (hQ : ∀ iv', PVs p V iv1 iv' → WPc (MW (d + 1)) 77 Q 123 [some (.inr 2), some (.inl w), some (.inr a), some (.inl (nI V)), l4] [] ((n, kd, ln), iv', rv) bc bs) :
    ∀ k i iv, i + k = V → PVs p i iv1 iv → WPc (MW (d + 1)) 77 Q 82 [some (.inr 2), some (.inl w), some (.inr a), some (.inl (nI i)), l4] [] ((n, kd, ln), iv, rv) bc bs := by
  have hV4 := h6.1
  intro k
  induction k with
  | zero =>
    intro i iv hi hP
    obtain rfl : i = V := by omega
    have g : iv 11 2 12 = nI i := by rw [hP.1.1 11 (by decide) (by decide)]; exact hV
    rw [WP_eq, k77_82]
    simp only [e_lI0, e_lR0, e_st0, e_lI1, e_lR1, e_st1, e_lI2, e_lR2, e_st2, e_lI3, e_lR3, e_st3, e_lI4, e_lR4, e_st4, e_lI5, e_lR5, e_st5, e_lI6, e_lR6, e_st6, e_lI7, e_lR7, e_st7, e_lI8, e_lR8, e_st8, e_swn, e_swc, e_sw0, e_sw1, e_sw2, e_sw3, e_sw4, e_sw5, e_sw6, e_sw7, e_sw8, e_sw9, Option.toList_some, Option.toList_none, List.cons_append, List.nil_append, List.length_cons, List.length_nil, Nat.reduceAdd, Nat.reduceLeDiff, Nat.zero_le, Nat.le_refl, true_and, and_true, WP_eq, Nat.reduceSub, if_true, if_false, Nat.reduceEqDiff, not_false_eq_true, i_10, i_01, Int32.reduceLT, Int32.reduceLE, true_or, or_true, ne_eq, fk_2 hk, fk_8 hk, fk_11 hk, fk_20 hk, fk_29 hk, fr_11_2_5 hr, fr_11_2_6 hr, fr_11_2_1 hr, fk_4 hk, fl_4 hl, fr_11_2_3 hr, fk_6 hk, fl_6 hl, en_77, c_13, c_14, c_15, c_16, c_30, c_70, k77_0, k77_1, k77_100, k77_103, k77_104, k77_107, k77_108, k77_109, k77_11, k77_112, k77_113, k77_114, k77_117, k77_12, k77_120, k77_124, k77_127, k77_13, k77_130, k77_16, k77_19, k77_20, k77_22, k77_23, k77_26, k77_29, k77_30, k77_33, k77_34, k77_35, k77_37, k77_39, k77_4, k77_42, k77_43, k77_46, k77_47, k77_49, k77_5, k77_50, k77_53, k77_56, k77_57, k77_60, k77_61, k77_63, k77_66, k77_69, k77_72, k77_73, k77_74, k77_77, k77_8, k77_81, k77_83, k77_84, k77_87, k77_90, k77_91, k77_94, k77_95, k77_96, k77_99, r_77, s_aaload, s_aload, s_aload_n, s_astore, s_astore_n, s_goto, s_icmp_ge, s_icmp_ne, s_iconst, s_if_ne, s_iinc, s_iload_n, s_istore_n, sg_10_0, sg_11_1, sg_11_10, sg_11_12, sg_11_13, sg_11_3, sg_11_5, sg_11_6, sg_4_0, sg_4_1, g, nI_self_le]
    rw [← WP_eq]
    exact hQ iv hP
  | succ k ih =>
    intro i iv hi hP
    obtain ⟨hF, q9, q17⟩ := id hP
    have hiV : i < V := by omega
    have g : iv 11 2 12 = nI V := by rw [hF.1 11 (by decide) (by decide)]; exact hV
    have c1 : ¬ nI V ≤ nI i := nI_ge hiV (by omega)
    have hin : vp_in (nI i) 4 := vp_in_nI (by omega) (by decide)
    have hcl : (nI i).toNatClampNeg = i := nI_clamp (by omega)
    obtain ⟨hkd, f0, f1, f2, -⟩ := h6.2 i hiV
    have g10 : iv 10 = iv1 10 := hF.1 10 (by decide) (by decide)
    have e0 : iv 10 (rv 40 6 i) 0 = iv1 20 52 i := by rw [g10]; exact f0
    have e1 : iv 10 (rv 40 6 i) 1 = iv1 20 53 i := by rw [g10]; exact f1
    have e2 : iv 10 (rv 40 6 i) 2 = iv1 20 54 i := by rw [g10]; exact f2
    have hci := sc_n (p := p) i
    rw [WP_eq, k77_82]
    by_cases sel : p i = true
    · have s1 : iv1 20 52 i = w := by rw [hp] at sel; exact of_decide_eq_true sel
      have z4 : nI (sc p i).1 < 4 := nI_lt (b := 4) (by omega) (by decide)
      have v1 : vp_in (nI (sc p i).1) 4 := vp_in_nI (by omega) (by decide)
      have v2 : (nI (sc p i).1).toNatClampNeg = (sc p i).1 := nI_clamp (by omega)
      simp only [e_lI0, e_lR0, e_st0, e_lI1, e_lR1, e_st1, e_lI2, e_lR2, e_st2, e_lI3, e_lR3, e_st3, e_lI4, e_lR4, e_st4, e_lI5, e_lR5, e_st5, e_lI6, e_lR6, e_st6, e_lI7, e_lR7, e_st7, e_lI8, e_lR8, e_st8, e_swn, e_swc, e_sw0, e_sw1, e_sw2, e_sw3, e_sw4, e_sw5, e_sw6, e_sw7, e_sw8, e_sw9, Option.toList_some, Option.toList_none, List.cons_append, List.nil_append, List.length_cons, List.length_nil, Nat.reduceAdd, Nat.reduceLeDiff, Nat.zero_le, Nat.le_refl, true_and, and_true, WP_eq, Nat.reduceSub, if_true, if_false, Nat.reduceEqDiff, not_false_eq_true, i_10, i_01, Int32.reduceLT, Int32.reduceLE, true_or, or_true, ne_eq, fk_2 hk, fk_8 hk, fk_11 hk, fk_20 hk, fk_29 hk, fr_11_2_5 hr, fr_11_2_6 hr, fr_11_2_1 hr, fk_4 hk, fl_4 hl, fr_11_2_3 hr, fk_6 hk, fl_6 hl, fr_6_11_5 hr, fk_17 hk, fl_17 hl, fr_6_11_6 hr, fk_18 hk, fl_18 hl, fr_6_11_7 hr, fk_19 hk, fl_19 hl, en_77, c_13, c_14, c_15, c_16, c_30, c_70, k77_0, k77_1, k77_100, k77_103, k77_104, k77_107, k77_108, k77_109, k77_11, k77_112, k77_113, k77_114, k77_117, k77_12, k77_120, k77_124, k77_127, k77_13, k77_130, k77_16, k77_19, k77_20, k77_22, k77_23, k77_26, k77_29, k77_30, k77_33, k77_34, k77_35, k77_37, k77_39, k77_4, k77_42, k77_43, k77_46, k77_47, k77_49, k77_5, k77_50, k77_53, k77_56, k77_57, k77_60, k77_61, k77_63, k77_66, k77_69, k77_72, k77_73, k77_74, k77_77, k77_8, k77_81, k77_83, k77_84, k77_87, k77_90, k77_91, k77_94, k77_95, k77_96, k77_99, r_77, s_aaload, s_aload, s_aload_n, s_astore, s_astore_n, s_goto, s_icmp_ge, s_icmp_ne, s_iconst, s_if_ne, s_iinc, s_iload_n, s_istore_n, sg_10_0, sg_11_1, sg_11_10, sg_11_12, sg_11_13, sg_11_3, sg_11_5, sg_11_6, sg_4_0, sg_4_1, en_15, k15_0, k15_1, k15_10, k15_13, k15_14, k15_17, k15_18, k15_19, k15_20, k15_23, k15_24, k15_27, k15_28, k15_31, k15_32, k15_33, k15_36, k15_37, k15_4, k15_40, k15_41, k15_44, k15_45, k15_46, k15_47, k15_5, k15_50, k15_51, k15_52, k15_55, k15_8, k15_9, s_dup, s_iadd, s_iastore, s_icmp_lt, s_return, sg_10_1, sg_10_2, sg_6_5, sg_6_6, sg_6_7, sg_6_9, sp_6_9, g, c1, hin, hcl, hkd, e0, s1, e1, e2, q9, z4, v1, v2, Nat.add_left_cancel_iff, u3_d, eq_self, false_and, and_false, and_self, if_true, if_false, Nat.reduceEqDiff]
      rw [← WP_eq, nI_1, nI_1]
      refine ih (i + 1) _ (by omega) ⟨⟨fun K k1 k2 => ?_, fun b b1 b2 b3 => ?_, fun j j1 => ?_⟩, ?_, fun j hj => ?_⟩
      · rw [u3_c k1, u3_c k2, u3_c k2, u3_c k2]; exact hF.1 K k1 k2
      · rw [u3_c (by decide), u3_a b3, u3_a b2, u3_a b1]; exact hF.2.1 b b1 b2 b3
      · rw [u3_j j1, u3_c (by decide), u3_c (by decide), u3_c (by decide)]; exact hF.2.2 j j1
      · rw [u3_s, sc_t sel]
      · rw [sc_t sel] at hj ⊢
        have hj : j < (sc p i).1 + 1 := hj
        rw [u3_c (by decide)]
        show _ = nI (va_up (sc p i).2 (sc p i).1 i j) ∧ _ = iv1 20 53 (va_up (sc p i).2 (sc p i).1 i j) ∧ _ = iv1 20 54 (va_up (sc p i).2 (sc p i).1 i j)
        refine ⟨?_, ?_, ?_⟩
        · rw [u3_a (by decide), u3_a (by decide)]
          by_cases e : j = (sc p i).1
          · rw [e, u3_s, up_s]
          · rw [u3_j e, up_n e]; exact (q17 j (by omega)).1
        · rw [u3_a (by decide)]
          by_cases e : j = (sc p i).1
          · rw [e, u3_s, up_s]
          · rw [u3_j e, u3_a (by decide), up_n e]; exact (q17 j (by omega)).2.1
        · by_cases e : j = (sc p i).1
          · rw [e, u3_s, up_s]
          · rw [u3_j e, u3_a (by decide), u3_a (by decide), up_n e]; exact (q17 j (by omega)).2.2
    · have hP' : PVs p (i + 1) iv1 iv := by unfold PVs; rw [sc_f sel]; exact hP
      have c2 : ¬ iv1 20 52 i = w := fun z => sel (by rw [hp]; exact decide_eq_true z)
      simp only [e_lI0, e_lR0, e_st0, e_lI1, e_lR1, e_st1, e_lI2, e_lR2, e_st2, e_lI3, e_lR3, e_st3, e_lI4, e_lR4, e_st4, e_lI5, e_lR5, e_st5, e_lI6, e_lR6, e_st6, e_lI7, e_lR7, e_st7, e_lI8, e_lR8, e_st8, e_swn, e_swc, e_sw0, e_sw1, e_sw2, e_sw3, e_sw4, e_sw5, e_sw6, e_sw7, e_sw8, e_sw9, Option.toList_some, Option.toList_none, List.cons_append, List.nil_append, List.length_cons, List.length_nil, Nat.reduceAdd, Nat.reduceLeDiff, Nat.zero_le, Nat.le_refl, true_and, and_true, WP_eq, Nat.reduceSub, if_true, if_false, Nat.reduceEqDiff, not_false_eq_true, i_10, i_01, Int32.reduceLT, Int32.reduceLE, true_or, or_true, ne_eq, fk_2 hk, fk_8 hk, fk_11 hk, fk_20 hk, fk_29 hk, fr_11_2_5 hr, fr_11_2_6 hr, fr_11_2_1 hr, fk_4 hk, fl_4 hl, fr_11_2_3 hr, fk_6 hk, fl_6 hl, en_77, c_13, c_14, c_15, c_16, c_30, c_70, k77_0, k77_1, k77_100, k77_103, k77_104, k77_107, k77_108, k77_109, k77_11, k77_112, k77_113, k77_114, k77_117, k77_12, k77_120, k77_124, k77_127, k77_13, k77_130, k77_16, k77_19, k77_20, k77_22, k77_23, k77_26, k77_29, k77_30, k77_33, k77_34, k77_35, k77_37, k77_39, k77_4, k77_42, k77_43, k77_46, k77_47, k77_49, k77_5, k77_50, k77_53, k77_56, k77_57, k77_60, k77_61, k77_63, k77_66, k77_69, k77_72, k77_73, k77_74, k77_77, k77_8, k77_81, k77_83, k77_84, k77_87, k77_90, k77_91, k77_94, k77_95, k77_96, k77_99, r_77, s_aaload, s_aload, s_aload_n, s_astore, s_astore_n, s_goto, s_icmp_ge, s_icmp_ne, s_iconst, s_if_ne, s_iinc, s_iload_n, s_istore_n, sg_10_0, sg_11_1, sg_11_10, sg_11_12, sg_11_13, sg_11_3, sg_11_5, sg_11_6, sg_4_0, sg_4_1, g, c1, hin, hcl, hkd, e0, c2]
      rw [← WP_eq, nI_1]
      exact ih (i + 1) _ (by omega) hP'
