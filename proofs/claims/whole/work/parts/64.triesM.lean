def ZF (iv0 iv : Nat → Nat → Nat → Int32) : Prop := (∀ K, K ≠ 20 → iv K = iv0 K) ∧ (∀ a, a ≠ 57 → iv 20 a = iv0 20 a)
def TH (p : Nat → Bool) (i : Nat) (iv0 iv : Nat → Nat → Nat → Int32) : Prop := ZF iv0 iv ∧ ∀ k, k < (sc p i).1 → iv 20 57 k = nI ((sc p i).2 k)
set_option maxRecDepth 100000 in
set_option maxHeartbeats 4000000 in
theorem lp_tr1 {d Hn P : Nat} {t w : Int32} {l4 : LV} {n : Nat} {kd ln : Nat → Nat} {iv0 : Nat → Nat → Nat → Int32} {rv : Nat → Nat → Nat → Nat} {Q : Rt} {bc bs : Nat} (hk : FixK kd) (hl : FixL ln) (hr : FixR rv) (hHn : iv0 12 29 11 = nI Hn) (hH : Hn ≤ 30) (hP : iv0 12 29 20 = nI P) (hP4 : P ≤ 40) (ht : iv0 12 29 0 = t) (hq : ∀ i, i < Hn → (iv0 20 41 i = -1 ↔ iv0 20 42 i = -1)) {p : Nat → Bool} (hp : p = wtg (iv0 20 38) (iv0 20 42) (ruW (iv0 20 47) (pick (iv0 20 46) t P)) t w)
    (hQ1 : 6 < (sc p Hn).1 → ∀ iv', ZF iv0 iv' → Q (some (.inl (-1))) ((n, kd, ln), iv', rv))
    (hQ2 : (sc p Hn).1 ≤ 6 → ∀ iv', TH p Hn iv0 iv' → WPc (MW (d + 2)) 105 Q 57 [some (.inr 29), some (.inl w), some (.inl (nI (sc p Hn).1)), some (.inl (nI Hn)), l4] [] ((n, kd, ln), iv', rv) bc bs) :
    ∀ k i iv, i + k = Hn → (sc p i).1 ≤ 6 → TH p i iv0 iv → WPc (MW (d + 2)) 105 Q 4 [some (.inr 29), some (.inl w), some (.inl (nI (sc p i).1)), some (.inl (nI i)), l4] [] ((n, kd, ln), iv, rv) bc bs := by
  intro k
  induction k with
  | zero =>
    intro i iv hi h6 hT
    obtain rfl : i = Hn := by omega
    have g : iv 12 29 11 = nI i := by rw [hT.1.1 12 (by decide)]; exact hHn
    rw [WP_eq, k105_4]
    simp only [e_lI0, e_lR0, e_st0, e_lI1, e_lR1, e_st1, e_lI2, e_lR2, e_st2, e_lI3, e_lR3, e_st3, e_lI4, e_lR4, e_st4, e_lI5, e_lR5, e_st5, e_lI6, e_lR6, e_st6, e_lI7, e_lR7, e_st7, e_lI8, e_lR8, e_st8, e_swn, e_swc, e_sw0, e_sw1, e_sw2, e_sw3, e_sw4, e_sw5, e_sw6, e_sw7, e_sw8, e_sw9, Option.toList_some, Option.toList_none, List.cons_append, List.nil_append, List.length_cons, List.length_nil, Nat.reduceAdd, Nat.reduceLeDiff, Nat.zero_le, Nat.le_refl, true_and, and_true, WP_eq, Nat.reduceSub, if_true, if_false, Nat.reduceEqDiff, not_false_eq_true, i_10, i_01, Int32.reduceLT, Int32.reduceLE, true_or, or_true, ne_eq, fk_2 hk, fk_8 hk, fk_11 hk, fk_20 hk, fk_29 hk, fr_12_29_12 hr, fk_38 hk, fl_38 hl, fr_12_29_40 hr, fk_57 hk, fl_57 hl, en_105, c_106, c_94, k105_0, k105_1, k105_100, k105_103, k105_104, k105_106, k105_107, k105_108, k105_111, k105_114, k105_117, k105_118, k105_12, k105_13, k105_16, k105_17, k105_18, k105_19, k105_2, k105_22, k105_23, k105_24, k105_27, k105_3, k105_30, k105_33, k105_34, k105_36, k105_39, k105_40, k105_41, k105_42, k105_45, k105_46, k105_47, k105_48, k105_5, k105_51, k105_54, k105_58, k105_6, k105_61, k105_62, k105_63, k105_64, k105_65, k105_66, k105_70, k105_71, k105_74, k105_75, k105_76, k105_79, k105_80, k105_81, k105_82, k105_83, k105_86, k105_9, k105_90, k105_91, k105_94, k105_95, k105_99, r_105, s_aload_n, s_bipush, s_goto, s_iadd, s_iaload20, s_iastore, s_icmp_ge, s_icmp_ne, s_iconst, s_if_eq, s_if_ne, s_iinc, s_iload, s_iload_n, s_imul, s_istore, s_istore_n, sg_12_11, sg_12_12, sg_12_33, sg_12_40, sp_12_43, g, nI_self_le]
    rw [← WP_eq]
    exact hQ2 h6 iv hT
  | succ k ih =>
    intro i iv hi h6 hT
    obtain ⟨hF, q57⟩ := id hT
    have hiH : i < Hn := by omega
    have g12 : iv 12 = iv0 12 := hF.1 12 (by decide)
    have g : iv 12 29 11 = nI Hn := by rw [g12]; exact hHn
    have c1 : ¬ nI Hn ≤ nI i := nI_ge hiH (by omega)
    have hin : vp_in (nI i) 30 := vp_in_nI (by omega) (by decide)
    have hcl : (nI i).toNatClampNeg = i := nI_clamp (by omega)
    have g38 : iv 20 38 i = iv0 20 38 i := by rw [hF.2 38 (by decide)]
    have g42 : iv 20 42 = iv0 20 42 := hF.2 42 (by decide)
    have LH : ∀ (d : Nat) (Q : Rt), MW (d + 2) 94 [.inr 29, .inl (nI i)] ((n, kd, ln), iv, rv) Q = if iv0 20 42 i = -1 then Q (some (.inl 0)) ((n, kd, ln), iv, rv) else if rmd (ruW (iv0 20 47) (pick (iv0 20 46) t P)) 1000 ≤ t - iv0 20 42 i then Q (some (.inl 0)) ((n, kd, ln), iv, rv) else Q (some (.inl 1)) ((n, kd, ln), iv, rv) := fun d Q => by
      have h := L_isLooked (d := d) (n := n) (iv := iv) (Q := Q) hk hl hr (show iv 12 29 20 = nI P by rw [g12]; exact hP) hP4 (show iv 12 29 0 = t by rw [g12]; exact ht) (show i < 30 by omega) (by rw [hF.2 41 (by decide), g42]; exact hq i hiH)
      rw [g42, hF.2 47 (by decide), hF.2 46 (by decide)] at h
      exact h
    rw [WP_eq, k105_4]
    by_cases sel : p i = true
    · have s0 : iv0 20 38 i = w ∧ (iv0 20 42 i = -1 ∨ rmd (ruW (iv0 20 47) (pick (iv0 20 46) t P)) 1000 ≤ t - iv0 20 42 i) := by rw [hp] at sel; exact of_decide_eq_true sel
      have LN : ∀ (d : Nat) (Q : Rt), MW (d + 2) 94 [.inr 29, .inl (nI i)] ((n, kd, ln), iv, rv) Q = Q (some (.inl 0)) ((n, kd, ln), iv, rv) := fun d Q => by
        rw [LH]
        by_cases z : iv0 20 42 i = -1
        · rw [if_pos z]
        · rw [if_neg z, if_pos (s0.2.resolve_left z)]
      have s1 := s0.1
      by_cases c6 : (sc p i).1 = 6
      · have z6 : nI (sc p i).1 = 6 := by rw [c6]; rfl
        simp only [e_lI0, e_lR0, e_st0, e_lI1, e_lR1, e_st1, e_lI2, e_lR2, e_st2, e_lI3, e_lR3, e_st3, e_lI4, e_lR4, e_st4, e_lI5, e_lR5, e_st5, e_lI6, e_lR6, e_st6, e_lI7, e_lR7, e_st7, e_lI8, e_lR8, e_st8, e_swn, e_swc, e_sw0, e_sw1, e_sw2, e_sw3, e_sw4, e_sw5, e_sw6, e_sw7, e_sw8, e_sw9, Option.toList_some, Option.toList_none, List.cons_append, List.nil_append, List.length_cons, List.length_nil, Nat.reduceAdd, Nat.reduceLeDiff, Nat.zero_le, Nat.le_refl, true_and, and_true, WP_eq, Nat.reduceSub, if_true, if_false, Nat.reduceEqDiff, not_false_eq_true, i_10, i_01, Int32.reduceLT, Int32.reduceLE, true_or, or_true, ne_eq, fk_2 hk, fk_8 hk, fk_11 hk, fk_20 hk, fk_29 hk, fr_12_29_12 hr, fk_38 hk, fl_38 hl, fr_12_29_40 hr, fk_57 hk, fl_57 hl, en_105, c_106, c_94, k105_0, k105_1, k105_100, k105_103, k105_104, k105_106, k105_107, k105_108, k105_111, k105_114, k105_117, k105_118, k105_12, k105_13, k105_16, k105_17, k105_18, k105_19, k105_2, k105_22, k105_23, k105_24, k105_27, k105_3, k105_30, k105_33, k105_34, k105_36, k105_39, k105_40, k105_41, k105_42, k105_45, k105_46, k105_47, k105_48, k105_5, k105_51, k105_54, k105_58, k105_6, k105_61, k105_62, k105_63, k105_64, k105_65, k105_66, k105_70, k105_71, k105_74, k105_75, k105_76, k105_79, k105_80, k105_81, k105_82, k105_83, k105_86, k105_9, k105_90, k105_91, k105_94, k105_95, k105_99, r_105, s_aload_n, s_bipush, s_goto, s_iadd, s_iaload20, s_iastore, s_icmp_ge, s_icmp_ne, s_iconst, s_if_eq, s_if_ne, s_iinc, s_iload, s_iload_n, s_imul, s_istore, s_istore_n, sg_12_11, sg_12_12, sg_12_33, sg_12_40, sp_12_43, g, c1, hin, hcl, g38, s1, LN, z6]
        refine hQ1 ?_ iv hF
        have h9 := sc_le (p := p) Hn (show i + 1 ≤ Hn by omega)
        rw [sc_t sel] at h9
        have h9 : (sc p i).1 + 1 ≤ _ := h9
        omega
      · have z6 : ¬ nI (sc p i).1 = 6 := fun z => c6 ((nI_eq (b := 6) (by omega) (by decide)).mp z)
        have v1 : vp_in (nI (sc p i).1) 6 := vp_in_nI (by omega) (by decide)
        have v2 : (nI (sc p i).1).toNatClampNeg = (sc p i).1 := nI_clamp (by omega)
        simp only [e_lI0, e_lR0, e_st0, e_lI1, e_lR1, e_st1, e_lI2, e_lR2, e_st2, e_lI3, e_lR3, e_st3, e_lI4, e_lR4, e_st4, e_lI5, e_lR5, e_st5, e_lI6, e_lR6, e_st6, e_lI7, e_lR7, e_st7, e_lI8, e_lR8, e_st8, e_swn, e_swc, e_sw0, e_sw1, e_sw2, e_sw3, e_sw4, e_sw5, e_sw6, e_sw7, e_sw8, e_sw9, Option.toList_some, Option.toList_none, List.cons_append, List.nil_append, List.length_cons, List.length_nil, Nat.reduceAdd, Nat.reduceLeDiff, Nat.zero_le, Nat.le_refl, true_and, and_true, WP_eq, Nat.reduceSub, if_true, if_false, Nat.reduceEqDiff, not_false_eq_true, i_10, i_01, Int32.reduceLT, Int32.reduceLE, true_or, or_true, ne_eq, fk_2 hk, fk_8 hk, fk_11 hk, fk_20 hk, fk_29 hk, fr_12_29_12 hr, fk_38 hk, fl_38 hl, fr_12_29_40 hr, fk_57 hk, fl_57 hl, en_105, c_106, c_94, k105_0, k105_1, k105_100, k105_103, k105_104, k105_106, k105_107, k105_108, k105_111, k105_114, k105_117, k105_118, k105_12, k105_13, k105_16, k105_17, k105_18, k105_19, k105_2, k105_22, k105_23, k105_24, k105_27, k105_3, k105_30, k105_33, k105_34, k105_36, k105_39, k105_40, k105_41, k105_42, k105_45, k105_46, k105_47, k105_48, k105_5, k105_51, k105_54, k105_58, k105_6, k105_61, k105_62, k105_63, k105_64, k105_65, k105_66, k105_70, k105_71, k105_74, k105_75, k105_76, k105_79, k105_80, k105_81, k105_82, k105_83, k105_86, k105_9, k105_90, k105_91, k105_94, k105_95, k105_99, r_105, s_aload_n, s_bipush, s_goto, s_iadd, s_iaload20, s_iastore, s_icmp_ge, s_icmp_ne, s_iconst, s_if_eq, s_if_ne, s_iinc, s_iload, s_iload_n, s_imul, s_istore, s_istore_n, sg_12_11, sg_12_12, sg_12_33, sg_12_40, sp_12_43, g, c1, hin, hcl, g38, s1, LN, z6, v1, v2]
        rw [← WP_eq, nI_1, nI_1, show (sc p i).1 + 1 = (sc p (i + 1)).1 by rw [sc_t sel]]
        refine ih (i + 1) _ (by omega) ?_ ⟨⟨fun K k1 => ?_, fun b b1 => ?_⟩, fun j hj => ?_⟩
        · rw [sc_t sel]
          show (sc p i).1 + 1 ≤ 6
          omega
        · rw [u3_c k1]; exact hF.1 K k1
        · rw [u3_a b1]; exact hF.2 b b1
        · rw [sc_t sel] at hj ⊢
          have hj : j < (sc p i).1 + 1 := hj
          show _ = nI (va_up (sc p i).2 (sc p i).1 i j)
          by_cases e : j = (sc p i).1
          · rw [e, u3_s, up_s]
          · rw [u3_j e, up_n e]; exact q57 j (by omega)
    · have hT' : TH p (i + 1) iv0 iv := by unfold TH; rw [sc_f sel]; exact hT
      have h6' : (sc p (i + 1)).1 ≤ 6 := by rw [sc_f sel]; exact h6
      by_cases c2 : iv0 20 38 i = w
      · have n1 : ¬ iv0 20 42 i = -1 := fun z => sel (by rw [hp]; exact decide_eq_true ⟨c2, Or.inl z⟩)
        have n2 : ¬ rmd (ruW (iv0 20 47) (pick (iv0 20 46) t P)) 1000 ≤ t - iv0 20 42 i := fun z => sel (by rw [hp]; exact decide_eq_true ⟨c2, Or.inr z⟩)
        simp only [e_lI0, e_lR0, e_st0, e_lI1, e_lR1, e_st1, e_lI2, e_lR2, e_st2, e_lI3, e_lR3, e_st3, e_lI4, e_lR4, e_st4, e_lI5, e_lR5, e_st5, e_lI6, e_lR6, e_st6, e_lI7, e_lR7, e_st7, e_lI8, e_lR8, e_st8, e_swn, e_swc, e_sw0, e_sw1, e_sw2, e_sw3, e_sw4, e_sw5, e_sw6, e_sw7, e_sw8, e_sw9, Option.toList_some, Option.toList_none, List.cons_append, List.nil_append, List.length_cons, List.length_nil, Nat.reduceAdd, Nat.reduceLeDiff, Nat.zero_le, Nat.le_refl, true_and, and_true, WP_eq, Nat.reduceSub, if_true, if_false, Nat.reduceEqDiff, not_false_eq_true, i_10, i_01, Int32.reduceLT, Int32.reduceLE, true_or, or_true, ne_eq, fk_2 hk, fk_8 hk, fk_11 hk, fk_20 hk, fk_29 hk, fr_12_29_12 hr, fk_38 hk, fl_38 hl, fr_12_29_40 hr, fk_57 hk, fl_57 hl, en_105, c_106, c_94, k105_0, k105_1, k105_100, k105_103, k105_104, k105_106, k105_107, k105_108, k105_111, k105_114, k105_117, k105_118, k105_12, k105_13, k105_16, k105_17, k105_18, k105_19, k105_2, k105_22, k105_23, k105_24, k105_27, k105_3, k105_30, k105_33, k105_34, k105_36, k105_39, k105_40, k105_41, k105_42, k105_45, k105_46, k105_47, k105_48, k105_5, k105_51, k105_54, k105_58, k105_6, k105_61, k105_62, k105_63, k105_64, k105_65, k105_66, k105_70, k105_71, k105_74, k105_75, k105_76, k105_79, k105_80, k105_81, k105_82, k105_83, k105_86, k105_9, k105_90, k105_91, k105_94, k105_95, k105_99, r_105, s_aload_n, s_bipush, s_goto, s_iadd, s_iaload20, s_iastore, s_icmp_ge, s_icmp_ne, s_iconst, s_if_eq, s_if_ne, s_iinc, s_iload, s_iload_n, s_imul, s_istore, s_istore_n, sg_12_11, sg_12_12, sg_12_33, sg_12_40, sp_12_43, g, c1, hin, hcl, g38, c2, LH, n1, n2]
        rw [← WP_eq, nI_1, ← sc_f sel]
        exact ih (i + 1) _ (by omega) h6' hT'
      · simp only [e_lI0, e_lR0, e_st0, e_lI1, e_lR1, e_st1, e_lI2, e_lR2, e_st2, e_lI3, e_lR3, e_st3, e_lI4, e_lR4, e_st4, e_lI5, e_lR5, e_st5, e_lI6, e_lR6, e_st6, e_lI7, e_lR7, e_st7, e_lI8, e_lR8, e_st8, e_swn, e_swc, e_sw0, e_sw1, e_sw2, e_sw3, e_sw4, e_sw5, e_sw6, e_sw7, e_sw8, e_sw9, Option.toList_some, Option.toList_none, List.cons_append, List.nil_append, List.length_cons, List.length_nil, Nat.reduceAdd, Nat.reduceLeDiff, Nat.zero_le, Nat.le_refl, true_and, and_true, WP_eq, Nat.reduceSub, if_true, if_false, Nat.reduceEqDiff, not_false_eq_true, i_10, i_01, Int32.reduceLT, Int32.reduceLE, true_or, or_true, ne_eq, fk_2 hk, fk_8 hk, fk_11 hk, fk_20 hk, fk_29 hk, fr_12_29_12 hr, fk_38 hk, fl_38 hl, fr_12_29_40 hr, fk_57 hk, fl_57 hl, en_105, c_106, c_94, k105_0, k105_1, k105_100, k105_103, k105_104, k105_106, k105_107, k105_108, k105_111, k105_114, k105_117, k105_118, k105_12, k105_13, k105_16, k105_17, k105_18, k105_19, k105_2, k105_22, k105_23, k105_24, k105_27, k105_3, k105_30, k105_33, k105_34, k105_36, k105_39, k105_40, k105_41, k105_42, k105_45, k105_46, k105_47, k105_48, k105_5, k105_51, k105_54, k105_58, k105_6, k105_61, k105_62, k105_63, k105_64, k105_65, k105_66, k105_70, k105_71, k105_74, k105_75, k105_76, k105_79, k105_80, k105_81, k105_82, k105_83, k105_86, k105_9, k105_90, k105_91, k105_94, k105_95, k105_99, r_105, s_aload_n, s_bipush, s_goto, s_iadd, s_iaload20, s_iastore, s_icmp_ge, s_icmp_ne, s_iconst, s_if_eq, s_if_ne, s_iinc, s_iload, s_iload_n, s_imul, s_istore, s_istore_n, sg_12_11, sg_12_12, sg_12_33, sg_12_40, sp_12_43, g, c1, hin, hcl, g38, c2]
        rw [← WP_eq, nI_1, ← sc_f sel]
        exact ih (i + 1) _ (by omega) h6' hT'
set_option maxRecDepth 100000 in
set_option maxHeartbeats 4000000 in
theorem lp_all {d V N : Nat} {w : Int32} {n : Nat} {kd ln : Nat → Nat} {iv : Nat → Nat → Nat → Int32} {rv : Nat → Nat → Nat → Nat} {Q : Rt} {bc bs : Nat} (hk : FixK kd) (hl : FixL ln) (hr : FixR rv) (hV : iv 12 29 33 = nI V) (hV4 : V ≤ 4) (hN6 : N ≤ 6) :
    ∀ k i, i + k = N → WPc (MW d) 105 Q 68 [some (.inr 29), some (.inl w), some (.inl (nI N)), some (.inl (nI ((V + 1) ^ i))), some (.inl (nI i))] [] ((n, kd, ln), iv, rv) bc bs = WPc (MW d) 105 Q 89 [some (.inr 29), some (.inl w), some (.inl (nI N)), some (.inl (nI ((V + 1) ^ N))), some (.inl (nI N))] [] ((n, kd, ln), iv, rv) bc bs := by
  intro k
  induction k with
  | zero =>
    intro i hi
    obtain rfl : i = N := by omega
    rw [WP_eq (pc := 68), k105_68]
    simp only [e_lI0, e_lR0, e_st0, e_lI1, e_lR1, e_st1, e_lI2, e_lR2, e_st2, e_lI3, e_lR3, e_st3, e_lI4, e_lR4, e_st4, e_lI5, e_lR5, e_st5, e_lI6, e_lR6, e_st6, e_lI7, e_lR7, e_st7, e_lI8, e_lR8, e_st8, e_swn, e_swc, e_sw0, e_sw1, e_sw2, e_sw3, e_sw4, e_sw5, e_sw6, e_sw7, e_sw8, e_sw9, Option.toList_some, Option.toList_none, List.cons_append, List.nil_append, List.length_cons, List.length_nil, Nat.reduceAdd, Nat.reduceLeDiff, Nat.zero_le, Nat.le_refl, true_and, and_true, WP_eq, Nat.reduceSub, if_true, if_false, Nat.reduceEqDiff, not_false_eq_true, i_10, i_01, Int32.reduceLT, Int32.reduceLE, true_or, or_true, ne_eq, fk_2 hk, fk_8 hk, fk_11 hk, fk_20 hk, fk_29 hk, fr_12_29_12 hr, fk_38 hk, fl_38 hl, fr_12_29_40 hr, fk_57 hk, fl_57 hl, en_105, c_106, c_94, k105_0, k105_1, k105_100, k105_103, k105_104, k105_106, k105_107, k105_108, k105_111, k105_114, k105_117, k105_118, k105_12, k105_13, k105_16, k105_17, k105_18, k105_19, k105_2, k105_22, k105_23, k105_24, k105_27, k105_3, k105_30, k105_33, k105_34, k105_36, k105_39, k105_40, k105_41, k105_42, k105_45, k105_46, k105_47, k105_48, k105_5, k105_51, k105_54, k105_58, k105_6, k105_61, k105_62, k105_63, k105_64, k105_65, k105_66, k105_70, k105_71, k105_74, k105_75, k105_76, k105_79, k105_80, k105_81, k105_82, k105_83, k105_86, k105_9, k105_90, k105_91, k105_94, k105_95, k105_99, r_105, s_aload_n, s_bipush, s_goto, s_iadd, s_iaload20, s_iastore, s_icmp_ge, s_icmp_ne, s_iconst, s_if_eq, s_if_ne, s_iinc, s_iload, s_iload_n, s_imul, s_istore, s_istore_n, sg_12_11, sg_12_12, sg_12_33, sg_12_40, sp_12_43, nI_self_le]
  | succ k ih =>
    intro i hi
    have c1 : ¬ nI N ≤ nI i := nI_ge (show i < N by omega) (by omega)
    have e1 : nI V + 1 = nI (V + 1) := nI_1 V
    have e2 := pk_mul ((V + 1) ^ i) (V + 1)
    rw [← Nat.pow_succ] at e2
    rw [← ih (i + 1) (by omega), WP_eq (pc := 68), k105_68, WP_eq (pc := 68)]
    simp only [e_lI0, e_lR0, e_st0, e_lI1, e_lR1, e_st1, e_lI2, e_lR2, e_st2, e_lI3, e_lR3, e_st3, e_lI4, e_lR4, e_st4, e_lI5, e_lR5, e_st5, e_lI6, e_lR6, e_st6, e_lI7, e_lR7, e_st7, e_lI8, e_lR8, e_st8, e_swn, e_swc, e_sw0, e_sw1, e_sw2, e_sw3, e_sw4, e_sw5, e_sw6, e_sw7, e_sw8, e_sw9, Option.toList_some, Option.toList_none, List.cons_append, List.nil_append, List.length_cons, List.length_nil, Nat.reduceAdd, Nat.reduceLeDiff, Nat.zero_le, Nat.le_refl, true_and, and_true, WP_eq, Nat.reduceSub, if_true, if_false, Nat.reduceEqDiff, not_false_eq_true, i_10, i_01, Int32.reduceLT, Int32.reduceLE, true_or, or_true, ne_eq, fk_2 hk, fk_8 hk, fk_11 hk, fk_20 hk, fk_29 hk, fr_12_29_12 hr, fk_38 hk, fl_38 hl, fr_12_29_40 hr, fk_57 hk, fl_57 hl, en_105, c_106, c_94, k105_0, k105_1, k105_100, k105_103, k105_104, k105_106, k105_107, k105_108, k105_111, k105_114, k105_117, k105_118, k105_12, k105_13, k105_16, k105_17, k105_18, k105_19, k105_2, k105_22, k105_23, k105_24, k105_27, k105_3, k105_30, k105_33, k105_34, k105_36, k105_39, k105_40, k105_41, k105_42, k105_45, k105_46, k105_47, k105_48, k105_5, k105_51, k105_54, k105_58, k105_6, k105_61, k105_62, k105_63, k105_64, k105_65, k105_66, k105_70, k105_71, k105_74, k105_75, k105_76, k105_79, k105_80, k105_81, k105_82, k105_83, k105_86, k105_9, k105_90, k105_91, k105_94, k105_95, k105_99, r_105, s_aload_n, s_bipush, s_goto, s_iadd, s_iaload20, s_iastore, s_icmp_ge, s_icmp_ne, s_iconst, s_if_eq, s_if_ne, s_iinc, s_iload, s_iload_n, s_imul, s_istore, s_istore_n, sg_12_11, sg_12_12, sg_12_33, sg_12_40, sp_12_43, c1, hV, e1, e2, nI_1 i]
set_option maxRecDepth 100000 in
set_option maxHeartbeats 4000000 in
theorem lp_codes {d V N : Nat} {w : Int32} {many hp vp hn : Nat → Nat} {n : Nat} {kd ln : Nat → Nat} {iv0 : Nat → Nat → Nat → Int32} {rv : Nat → Nat → Nat → Nat} {Q : Rt} {bc bs : Nat} (hk : FixK kd) (hl : FixL ln) (hr : FixR rv) (hW : WM V many hp vp hn N iv0) {A : Nat} (hA : A < 2 ^ 31)
    (hQ : ∀ iv', WF iv0 iv' → MI V (iv0 20 52) w many (fun k v => dst (hp k) (vp v)) N (iv' 12 29 43) (iv' 12 29 44) (iv' 12 29 42) A → Q (some (.inl (nI N))) ((n, kd, ln), iv', rv)) :
    ∀ k c iv, c + k = A → WF iv0 iv → MI V (iv0 20 52) w many (fun k v => dst (hp k) (vp v)) N (iv 12 29 43) (iv 12 29 44) (iv 12 29 42) c → WPc (MW (d + 1)) 105 Q 97 [some (.inr 29), some (.inl w), some (.inl (nI N)), some (.inl (nI A)), some (.inl (nI c))] [] ((n, kd, ln), iv, rv) bc bs := by
  intro k
  induction k with
  | zero =>
    intro c iv hc hF hM
    obtain rfl : c = A := by omega
    rw [WP_eq, k105_97]
    simp only [e_lI0, e_lR0, e_st0, e_lI1, e_lR1, e_st1, e_lI2, e_lR2, e_st2, e_lI3, e_lR3, e_st3, e_lI4, e_lR4, e_st4, e_lI5, e_lR5, e_st5, e_lI6, e_lR6, e_st6, e_lI7, e_lR7, e_st7, e_lI8, e_lR8, e_st8, e_swn, e_swc, e_sw0, e_sw1, e_sw2, e_sw3, e_sw4, e_sw5, e_sw6, e_sw7, e_sw8, e_sw9, Option.toList_some, Option.toList_none, List.cons_append, List.nil_append, List.length_cons, List.length_nil, Nat.reduceAdd, Nat.reduceLeDiff, Nat.zero_le, Nat.le_refl, true_and, and_true, WP_eq, Nat.reduceSub, if_true, if_false, Nat.reduceEqDiff, not_false_eq_true, i_10, i_01, Int32.reduceLT, Int32.reduceLE, true_or, or_true, ne_eq, fk_2 hk, fk_8 hk, fk_11 hk, fk_20 hk, fk_29 hk, fr_12_29_12 hr, fk_38 hk, fl_38 hl, fr_12_29_40 hr, fk_57 hk, fl_57 hl, en_105, c_106, c_94, k105_0, k105_1, k105_100, k105_103, k105_104, k105_106, k105_107, k105_108, k105_111, k105_114, k105_117, k105_118, k105_12, k105_13, k105_16, k105_17, k105_18, k105_19, k105_2, k105_22, k105_23, k105_24, k105_27, k105_3, k105_30, k105_33, k105_34, k105_36, k105_39, k105_40, k105_41, k105_42, k105_45, k105_46, k105_47, k105_48, k105_5, k105_51, k105_54, k105_58, k105_6, k105_61, k105_62, k105_63, k105_64, k105_65, k105_66, k105_70, k105_71, k105_74, k105_75, k105_76, k105_79, k105_80, k105_81, k105_82, k105_83, k105_86, k105_9, k105_90, k105_91, k105_94, k105_95, k105_99, r_105, s_aload_n, s_bipush, s_goto, s_iadd, s_iaload20, s_iastore, s_icmp_ge, s_icmp_ne, s_iconst, s_if_eq, s_if_ne, s_iinc, s_iload, s_iload_n, s_imul, s_istore, s_istore_n, sg_12_11, sg_12_12, sg_12_33, sg_12_40, sp_12_43, nI_self_le]
    exact hQ iv hF hM
  | succ k ih =>
    intro c iv hc hF hM
    have c1 : ¬ nI A ≤ nI c := nI_ge (show c < A by omega) (by omega)
    have g52 : iv 20 52 = iv0 20 52 := hF.2.1 52 (by decide)
    have hW' : WM V many hp vp hn N iv := by
      obtain ⟨⟨wV, wV4, wN6⟩, wv, wk⟩ := id hW
      refine ⟨⟨by rw [hF.2.2 33 (by decide)]; exact wV, wV4, wN6⟩, ?_, ?_⟩
      · rw [hF.2.1 53 (by decide), hF.2.1 54 (by decide)]; exact wv
      · rw [hF.2.1 57 (by decide), hF.2.1 39 (by decide)]; exact wk
    rw [WP_eq, k105_97]
    simp only [e_lI0, e_lR0, e_st0, e_lI1, e_lR1, e_st1, e_lI2, e_lR2, e_st2, e_lI3, e_lR3, e_st3, e_lI4, e_lR4, e_st4, e_lI5, e_lR5, e_st5, e_lI6, e_lR6, e_st6, e_lI7, e_lR7, e_st7, e_lI8, e_lR8, e_st8, e_swn, e_swc, e_sw0, e_sw1, e_sw2, e_sw3, e_sw4, e_sw5, e_sw6, e_sw7, e_sw8, e_sw9, Option.toList_some, Option.toList_none, List.cons_append, List.nil_append, List.length_cons, List.length_nil, Nat.reduceAdd, Nat.reduceLeDiff, Nat.zero_le, Nat.le_refl, true_and, and_true, WP_eq, Nat.reduceSub, if_true, if_false, Nat.reduceEqDiff, not_false_eq_true, i_10, i_01, Int32.reduceLT, Int32.reduceLE, true_or, or_true, ne_eq, fk_2 hk, fk_8 hk, fk_11 hk, fk_20 hk, fk_29 hk, fr_12_29_12 hr, fk_38 hk, fl_38 hl, fr_12_29_40 hr, fk_57 hk, fl_57 hl, en_105, c_106, c_94, k105_0, k105_1, k105_100, k105_103, k105_104, k105_106, k105_107, k105_108, k105_111, k105_114, k105_117, k105_118, k105_12, k105_13, k105_16, k105_17, k105_18, k105_19, k105_2, k105_22, k105_23, k105_24, k105_27, k105_3, k105_30, k105_33, k105_34, k105_36, k105_39, k105_40, k105_41, k105_42, k105_45, k105_46, k105_47, k105_48, k105_5, k105_51, k105_54, k105_58, k105_6, k105_61, k105_62, k105_63, k105_64, k105_65, k105_66, k105_70, k105_71, k105_74, k105_75, k105_76, k105_79, k105_80, k105_81, k105_82, k105_83, k105_86, k105_9, k105_90, k105_91, k105_94, k105_95, k105_99, r_105, s_aload_n, s_bipush, s_goto, s_iadd, s_iaload20, s_iastore, s_icmp_ge, s_icmp_ne, s_iconst, s_if_eq, s_if_ne, s_iinc, s_iload, s_iload_n, s_imul, s_istore, s_istore_n, sg_12_11, sg_12_12, sg_12_33, sg_12_40, sp_12_43, c1]
    refine L_wayM (d := d) hk hl hr hW' (by omega) (by rw [g52]; exact hM) (fun iv' hF' hM' => ?_)
    simp only [e_lI0, e_lR0, e_st0, e_lI1, e_lR1, e_st1, e_lI2, e_lR2, e_st2, e_lI3, e_lR3, e_st3, e_lI4, e_lR4, e_st4, e_lI5, e_lR5, e_st5, e_lI6, e_lR6, e_st6, e_lI7, e_lR7, e_st7, e_lI8, e_lR8, e_st8, e_swn, e_swc, e_sw0, e_sw1, e_sw2, e_sw3, e_sw4, e_sw5, e_sw6, e_sw7, e_sw8, e_sw9, Option.toList_some, Option.toList_none, List.cons_append, List.nil_append, List.length_cons, List.length_nil, Nat.reduceAdd, Nat.reduceLeDiff, Nat.zero_le, Nat.le_refl, true_and, and_true, WP_eq, Nat.reduceSub, if_true, if_false, Nat.reduceEqDiff, not_false_eq_true, i_10, i_01, Int32.reduceLT, Int32.reduceLE, true_or, or_true, ne_eq, fk_2 hk, fk_8 hk, fk_11 hk, fk_20 hk, fk_29 hk, fr_12_29_12 hr, fk_38 hk, fl_38 hl, fr_12_29_40 hr, fk_57 hk, fl_57 hl, en_105, c_106, c_94, k105_0, k105_1, k105_100, k105_103, k105_104, k105_106, k105_107, k105_108, k105_111, k105_114, k105_117, k105_118, k105_12, k105_13, k105_16, k105_17, k105_18, k105_19, k105_2, k105_22, k105_23, k105_24, k105_27, k105_3, k105_30, k105_33, k105_34, k105_36, k105_39, k105_40, k105_41, k105_42, k105_45, k105_46, k105_47, k105_48, k105_5, k105_51, k105_54, k105_58, k105_6, k105_61, k105_62, k105_63, k105_64, k105_65, k105_66, k105_70, k105_71, k105_74, k105_75, k105_76, k105_79, k105_80, k105_81, k105_82, k105_83, k105_86, k105_9, k105_90, k105_91, k105_94, k105_95, k105_99, r_105, s_aload_n, s_bipush, s_goto, s_iadd, s_iaload20, s_iastore, s_icmp_ge, s_icmp_ne, s_iconst, s_if_eq, s_if_ne, s_iinc, s_iload, s_iload_n, s_imul, s_istore, s_istore_n, sg_12_11, sg_12_12, sg_12_33, sg_12_40, sp_12_43]
    rw [← WP_eq, nI_1]
    refine ih (c + 1) iv' (by omega) ⟨fun K k1 k2 => ?_, fun a a1 => ?_, fun j j1 => ?_⟩ ?_
    · rw [hF'.1 K k1 k2, hF.1 K k1 k2]
    · rw [hF'.2.1 a a1, hF.2.1 a a1]
    · rw [hF'.2.2 j j1, hF.2.2 j j1]
    · rw [g52] at hM'; exact hM'
set_option maxRecDepth 100000 in
set_option maxHeartbeats 4000000 in
theorem L_tries {d : Nat} {w : Int32} {L : Nat} {xs : Fn} {n : Nat} {kd ln : Nat → Nat} {iv : Nat → Nat → Nat → Int32} {rv : Nat → Nat → Nat → Nat} {S C Hn V E P T : Nat} {lst : Nat → Nat} (hI : Inv L xs n kd ln iv rv S C Hn V E P T lst) {Q : Rt} {p : Nat → Bool} (hp : p = wtP iv P T w) {N : Nat} (hN : N = (sc p Hn).1)
    (hQ1 : (N = 0 ∨ 6 < N) → ∀ iv', MF iv iv' → Q (some (.inl (-1))) ((n, kd, ln), iv', rv))
    (hQ2 : 0 < N → N ≤ 6 → ∀ iv', MF iv iv' → (∀ k, k < N → iv' 20 57 k = nI ((sc p Hn).2 k)) → MI V (iv 20 52) w (cl (iv 20 54)) (fun k v => dst (cl (iv 20 39) ((sc p Hn).2 k)) (cl (iv 20 53) v)) N (iv' 12 29 43) (iv' 12 29 44) (iv' 12 29 42) ((V + 1) ^ N) → Q (some (.inl (nI N))) ((n, kd, ln), iv', rv)) : MW (d + 3) 105 [.inr 29, .inl w] ((n, kd, ln), iv, rv) Q := by
  obtain ⟨⟨hk, hl, hr, hn, hkn, hL, hX⟩, hS, h1, h2, h3, h4, h5, h6, h7⟩ := id hI
  obtain ⟨z1, z2, z3, z4, z5, z6, z7, z8, z9, z10, z11, z12, z13, z14, z15, z16, z17, z18⟩ := id hS
  have hH := h3.1
  have hV4 := h6.1
  simp only [e_lI0, e_lR0, e_st0, e_lI1, e_lR1, e_st1, e_lI2, e_lR2, e_st2, e_lI3, e_lR3, e_st3, e_lI4, e_lR4, e_st4, e_lI5, e_lR5, e_st5, e_lI6, e_lR6, e_st6, e_lI7, e_lR7, e_st7, e_lI8, e_lR8, e_st8, e_swn, e_swc, e_sw0, e_sw1, e_sw2, e_sw3, e_sw4, e_sw5, e_sw6, e_sw7, e_sw8, e_sw9, Option.toList_some, Option.toList_none, List.cons_append, List.nil_append, List.length_cons, List.length_nil, Nat.reduceAdd, Nat.reduceLeDiff, Nat.zero_le, Nat.le_refl, true_and, and_true, WP_eq, Nat.reduceSub, if_true, if_false, Nat.reduceEqDiff, not_false_eq_true, i_10, i_01, Int32.reduceLT, Int32.reduceLE, true_or, or_true, ne_eq, fk_2 hk, fk_8 hk, fk_11 hk, fk_20 hk, fk_29 hk, fr_12_29_12 hr, fk_38 hk, fl_38 hl, fr_12_29_40 hr, fk_57 hk, fl_57 hl, en_105, c_106, c_94, k105_0, k105_1, k105_100, k105_103, k105_104, k105_106, k105_107, k105_108, k105_111, k105_114, k105_117, k105_118, k105_12, k105_13, k105_16, k105_17, k105_18, k105_19, k105_2, k105_22, k105_23, k105_24, k105_27, k105_3, k105_30, k105_33, k105_34, k105_36, k105_39, k105_40, k105_41, k105_42, k105_45, k105_46, k105_47, k105_48, k105_5, k105_51, k105_54, k105_58, k105_6, k105_61, k105_62, k105_63, k105_64, k105_65, k105_66, k105_70, k105_71, k105_74, k105_75, k105_76, k105_79, k105_80, k105_81, k105_82, k105_83, k105_86, k105_9, k105_90, k105_91, k105_94, k105_95, k105_99, r_105, s_aload_n, s_bipush, s_goto, s_iadd, s_iaload20, s_iastore, s_icmp_ge, s_icmp_ne, s_iconst, s_if_eq, s_if_ne, s_iinc, s_iload, s_iload_n, s_imul, s_istore, s_istore_n, sg_12_11, sg_12_12, sg_12_33, sg_12_40, sp_12_43]
  rw [← WP_eq]
  refine lp_tr1 (d := d) (iv0 := iv) hk hl hr z4 hH z14 h4.1 z10 (fun i hi => (h3.2.2.2.2.1 i hi).2.2) hp (fun h iv' hF => hQ1 (Or.inr (by omega)) iv' ⟨fun K _ k2 => hF.1 K k2, fun a a1 _ => hF.2 a a1, fun j _ => by rw [hF.1 12 (by decide)]⟩) (fun h6' iv1 hT => ?_) Hn 0 iv (by omega) (Nat.zero_le _) ⟨⟨fun _ _ => rfl, fun _ _ => rfl⟩, fun k hk' => absurd hk' (Nat.not_lt_zero _)⟩
  obtain ⟨hF, q57⟩ := hT
  rw [← hN] at h6' q57 ⊢
  have g12 : iv1 12 = iv 12 := hF.1 12 (by decide)
  rw [WP_eq, k105_57]
  by_cases hN0 : N = 0
  · have e0 : nI N = 0 := by rw [hN0]; rfl
    simp only [e_lI0, e_lR0, e_st0, e_lI1, e_lR1, e_st1, e_lI2, e_lR2, e_st2, e_lI3, e_lR3, e_st3, e_lI4, e_lR4, e_st4, e_lI5, e_lR5, e_st5, e_lI6, e_lR6, e_st6, e_lI7, e_lR7, e_st7, e_lI8, e_lR8, e_st8, e_swn, e_swc, e_sw0, e_sw1, e_sw2, e_sw3, e_sw4, e_sw5, e_sw6, e_sw7, e_sw8, e_sw9, Option.toList_some, Option.toList_none, List.cons_append, List.nil_append, List.length_cons, List.length_nil, Nat.reduceAdd, Nat.reduceLeDiff, Nat.zero_le, Nat.le_refl, true_and, and_true, WP_eq, Nat.reduceSub, if_true, if_false, Nat.reduceEqDiff, not_false_eq_true, i_10, i_01, Int32.reduceLT, Int32.reduceLE, true_or, or_true, ne_eq, fk_2 hk, fk_8 hk, fk_11 hk, fk_20 hk, fk_29 hk, fr_12_29_12 hr, fk_38 hk, fl_38 hl, fr_12_29_40 hr, fk_57 hk, fl_57 hl, en_105, c_106, c_94, k105_0, k105_1, k105_100, k105_103, k105_104, k105_106, k105_107, k105_108, k105_111, k105_114, k105_117, k105_118, k105_12, k105_13, k105_16, k105_17, k105_18, k105_19, k105_2, k105_22, k105_23, k105_24, k105_27, k105_3, k105_30, k105_33, k105_34, k105_36, k105_39, k105_40, k105_41, k105_42, k105_45, k105_46, k105_47, k105_48, k105_5, k105_51, k105_54, k105_58, k105_6, k105_61, k105_62, k105_63, k105_64, k105_65, k105_66, k105_70, k105_71, k105_74, k105_75, k105_76, k105_79, k105_80, k105_81, k105_82, k105_83, k105_86, k105_9, k105_90, k105_91, k105_94, k105_95, k105_99, r_105, s_aload_n, s_bipush, s_goto, s_iadd, s_iaload20, s_iastore, s_icmp_ge, s_icmp_ne, s_iconst, s_if_eq, s_if_ne, s_iinc, s_iload, s_iload_n, s_imul, s_istore, s_istore_n, sg_12_11, sg_12_12, sg_12_33, sg_12_40, sp_12_43, e0]
    exact hQ1 (Or.inl hN0) iv1 ⟨fun K _ k2 => hF.1 K k2, fun a a1 _ => hF.2 a a1, fun j _ => by rw [g12]⟩
  · have e0 : ¬ nI N = 0 := nI_ne0 (by omega) (by omega)
    have hA : (V + 1) ^ N < 2 ^ 31 := Nat.lt_of_le_of_lt (Nat.le_trans (Nat.pow_le_pow_left (show V + 1 ≤ 5 by omega) N) (Nat.pow_le_pow_right (show 0 < 5 by decide) h6')) (by decide)
    simp only [e_lI0, e_lR0, e_st0, e_lI1, e_lR1, e_st1, e_lI2, e_lR2, e_st2, e_lI3, e_lR3, e_st3, e_lI4, e_lR4, e_st4, e_lI5, e_lR5, e_st5, e_lI6, e_lR6, e_st6, e_lI7, e_lR7, e_st7, e_lI8, e_lR8, e_st8, e_swn, e_swc, e_sw0, e_sw1, e_sw2, e_sw3, e_sw4, e_sw5, e_sw6, e_sw7, e_sw8, e_sw9, Option.toList_some, Option.toList_none, List.cons_append, List.nil_append, List.length_cons, List.length_nil, Nat.reduceAdd, Nat.reduceLeDiff, Nat.zero_le, Nat.le_refl, true_and, and_true, WP_eq, Nat.reduceSub, if_true, if_false, Nat.reduceEqDiff, not_false_eq_true, i_10, i_01, Int32.reduceLT, Int32.reduceLE, true_or, or_true, ne_eq, fk_2 hk, fk_8 hk, fk_11 hk, fk_20 hk, fk_29 hk, fr_12_29_12 hr, fk_38 hk, fl_38 hl, fr_12_29_40 hr, fk_57 hk, fl_57 hl, en_105, c_106, c_94, k105_0, k105_1, k105_100, k105_103, k105_104, k105_106, k105_107, k105_108, k105_111, k105_114, k105_117, k105_118, k105_12, k105_13, k105_16, k105_17, k105_18, k105_19, k105_2, k105_22, k105_23, k105_24, k105_27, k105_3, k105_30, k105_33, k105_34, k105_36, k105_39, k105_40, k105_41, k105_42, k105_45, k105_46, k105_47, k105_48, k105_5, k105_51, k105_54, k105_58, k105_6, k105_61, k105_62, k105_63, k105_64, k105_65, k105_66, k105_70, k105_71, k105_74, k105_75, k105_76, k105_79, k105_80, k105_81, k105_82, k105_83, k105_86, k105_9, k105_90, k105_91, k105_94, k105_95, k105_99, r_105, s_aload_n, s_bipush, s_goto, s_iadd, s_iaload20, s_iastore, s_icmp_ge, s_icmp_ne, s_iconst, s_if_eq, s_if_ne, s_iinc, s_iload, s_iload_n, s_imul, s_istore, s_istore_n, sg_12_11, sg_12_12, sg_12_33, sg_12_40, sp_12_43, e0]
    rw [← WP_eq]
    refine Eq.mpr (lp_all (V := V) hk hl hr (by rw [g12]; exact z8) hV4 h6' N 0 (by omega)) ?_
    rw [WP_eq, k105_89]
    simp only [e_lI0, e_lR0, e_st0, e_lI1, e_lR1, e_st1, e_lI2, e_lR2, e_st2, e_lI3, e_lR3, e_st3, e_lI4, e_lR4, e_st4, e_lI5, e_lR5, e_st5, e_lI6, e_lR6, e_st6, e_lI7, e_lR7, e_st7, e_lI8, e_lR8, e_st8, e_swn, e_swc, e_sw0, e_sw1, e_sw2, e_sw3, e_sw4, e_sw5, e_sw6, e_sw7, e_sw8, e_sw9, Option.toList_some, Option.toList_none, List.cons_append, List.nil_append, List.length_cons, List.length_nil, Nat.reduceAdd, Nat.reduceLeDiff, Nat.zero_le, Nat.le_refl, true_and, and_true, WP_eq, Nat.reduceSub, if_true, if_false, Nat.reduceEqDiff, not_false_eq_true, i_10, i_01, Int32.reduceLT, Int32.reduceLE, true_or, or_true, ne_eq, fk_2 hk, fk_8 hk, fk_11 hk, fk_20 hk, fk_29 hk, fr_12_29_12 hr, fk_38 hk, fl_38 hl, fr_12_29_40 hr, fk_57 hk, fl_57 hl, en_105, c_106, c_94, k105_0, k105_1, k105_100, k105_103, k105_104, k105_106, k105_107, k105_108, k105_111, k105_114, k105_117, k105_118, k105_12, k105_13, k105_16, k105_17, k105_18, k105_19, k105_2, k105_22, k105_23, k105_24, k105_27, k105_3, k105_30, k105_33, k105_34, k105_36, k105_39, k105_40, k105_41, k105_42, k105_45, k105_46, k105_47, k105_48, k105_5, k105_51, k105_54, k105_58, k105_6, k105_61, k105_62, k105_63, k105_64, k105_65, k105_66, k105_70, k105_71, k105_74, k105_75, k105_76, k105_79, k105_80, k105_81, k105_82, k105_83, k105_86, k105_89, k105_9, k105_90, k105_91, k105_94, k105_95, k105_99, r_105, s_aload_n, s_bipush, s_goto, s_iadd, s_iaload20, s_iastore, s_icmp_ge, s_icmp_ne, s_iconst, s_if_eq, s_if_ne, s_iinc, s_iload, s_iload_n, s_imul, s_istore, s_istore_n, sg_12_11, sg_12_12, sg_12_33, sg_12_40, sp_12_43]
    rw [← WP_eq]
    have gA : ∀ a, a ≠ 57 → u3 iv1 12 29 43 (-1) 20 a = iv 20 a := fun a a1 => by rw [u3_c (by decide)]; exact hF.2 a a1
    refine lp_codes (d := d + 1) (V := V) (N := N) (w := w) (many := cl (iv 20 54)) (hp := fun k => cl (iv 20 39) ((sc p Hn).2 k)) (vp := cl (iv 20 53)) (hn := (sc p Hn).2) (iv0 := u3 iv1 12 29 43 (-1)) hk hl hr ⟨⟨?_, hV4, h6'⟩, fun v hv => ?_, fun k hk' => ?_⟩ hA (fun iv2 hF2 hM2 => ?_) ((V + 1) ^ N) 0 _ (by omega) ⟨fun _ _ _ => rfl, fun _ _ => rfl, fun _ _ => rfl⟩ (Or.inl ⟨u3_s, fun c hc => by omega⟩)
    · rw [u3_j (by decide), g12]; exact z8
    · obtain ⟨-, -, -, -, -, ⟨q, b1, e⟩, q', b2, b3, e'⟩ := h6.2 v hv
      rw [gA 53 (by decide), gA 54 (by decide), cl_k e (by omega), cl_k e' (by omega)]
      exact ⟨e, b1, e', b3⟩
    · have hhi := (sc_in (p := p) Hn k (by omega)).2
      obtain ⟨-, ⟨q, b1, e⟩, -⟩ := h3.2.2.2.2.1 _ hhi
      show _ ∧ _ ∧ _ = nI (cl (iv 20 39) ((sc p Hn).2 k)) ∧ cl (iv 20 39) ((sc p Hn).2 k) < 100
      rw [gA 39 (by decide), cl_k e (by omega), u3_c (by decide)]
      exact ⟨q57 k hk', by omega, e, b1⟩
    · rw [gA 52 (by decide)] at hM2
      refine hQ2 (by omega) h6' iv2 ⟨fun K k1 k2 => ?_, fun a a1 a2 => ?_, fun j j1 => ?_⟩ (fun k hk' => ?_) hM2
      · rw [hF2.1 K k1 k2, u3_c k1]; exact hF.1 K k2
      · rw [hF2.2.1 a a2]; exact gA a a1
      · rw [hF2.2.2 j j1, u3_j (by omega), g12]
      · rw [hF2.2.1 57 (by decide), u3_c (by decide)]; exact q57 k hk'
set_option maxRecDepth 100000 in
set_option maxHeartbeats 4000000 in
theorem lp_visM {d V N h cb : Nat} {l2 : LV} {hn : Nat → Nat} {r : Int32} {n : Nat} {kd ln : Nat → Nat} {iv : Nat → Nat → Nat → Int32} {rv : Nat → Nat → Nat → Nat} {Q : Rt} {bc bs : Nat} (hk : FixK kd) (hl : FixL ln) (hr : FixR rv) (hV : iv 12 29 33 = nI V) (hV4 : V ≤ 4) (hN6 : N ≤ 6) (hcb : cb < 2 ^ 31) (h57 : ∀ k, k < N → iv 20 57 k = nI (hn k) ∧ hn k < 30) (hh : h < 30) (hr1 : ∀ k, k < N → hn k = h → r = enc V (dgg (V + 1) N cb k)) (hr2 : (∀ k, k < N → hn k ≠ h) → r = -1) :
    ∀ kk x R, kk ≤ N → x = nI kk - 1 → R = cb / (V + 1) ^ (N - kk) → (∀ k, kk ≤ k → k < N → hn k ≠ h) → WPc (MW d) 107 Q 31 [some (.inr 29), some (.inl (nI h)), l2, some (.inl (nI R)), some (.inl x)] [] ((n, kd, ln), iv, rv) bc bs = Q (some (.inl r)) ((n, kd, ln), iv, rv) := by
  intro kk
  induction kk with
  | zero =>
    intro x R hkk hx hR hne
    have c1 : x < 0 := by rw [hx]; decide
    rw [WP_eq, k107_31]
    simp only [e_lI0, e_lR0, e_st0, e_lI1, e_lR1, e_st1, e_lI2, e_lR2, e_st2, e_lI3, e_lR3, e_st3, e_lI4, e_lR4, e_st4, e_lI5, e_lR5, e_st5, e_lI6, e_lR6, e_st6, e_lI7, e_lR7, e_st7, e_lI8, e_lR8, e_st8, e_swn, e_swc, e_sw0, e_sw1, e_sw2, e_sw3, e_sw4, e_sw5, e_sw6, e_sw7, e_sw8, e_sw9, Option.toList_some, Option.toList_none, List.cons_append, List.nil_append, List.length_cons, List.length_nil, Nat.reduceAdd, Nat.reduceLeDiff, Nat.zero_le, Nat.le_refl, true_and, and_true, WP_eq, Nat.reduceSub, if_true, if_false, Nat.reduceEqDiff, not_false_eq_true, i_10, i_01, Int32.reduceLT, Int32.reduceLE, true_or, or_true, ne_eq, fk_2 hk, fk_8 hk, fk_11 hk, fk_20 hk, fk_29 hk, fr_12_29_12 hr, fk_38 hk, fl_38 hl, fr_12_29_40 hr, fk_57 hk, fl_57 hl, en_107, c_105, c_81, k107_0, k107_1, k107_10, k107_11, k107_12, k107_15, k107_16, k107_17, k107_2, k107_20, k107_21, k107_22, k107_25, k107_26, k107_27, k107_28, k107_29, k107_33, k107_36, k107_37, k107_40, k107_42, k107_43, k107_44, k107_47, k107_48, k107_49, k107_5, k107_52, k107_53, k107_54, k107_55, k107_56, k107_59, k107_62, k107_63, k107_66, k107_67, k107_68, k107_71, k107_72, k107_73, k107_74, k107_75, k107_76, k107_77, k107_8, k107_80, k107_81, k107_82, k107_83, k107_84, k107_9, k107_90, k107_91, r_107, s_aload_n, s_goto, s_iadd, s_iaload20, s_icmp_ne, s_iconst, s_idiv, s_if_lt, s_if_ne, s_iinc, s_iload, s_iload_n, s_irem, s_istore, s_istore_n, s_isub, sg_12_12, sg_12_33, sg_12_40, sg_12_42, c1]
    rw [hr2 (fun k hk' => hne k (Nat.zero_le _) hk')]
  | succ j ih =>
    intro x R hkk hx hR hne
    rw [nI_pred] at hx
    subst hx
    have hjN : j < N := by omega
    have c1 : ¬ nI j < 0 := nI_pos (by omega)
    have hRl : R ≤ cb := by rw [hR]; exact Nat.div_le_self _ _
    obtain ⟨D, hDD⟩ : ∃ D, D = dgg (V + 1) N cb j := ⟨_, rfl⟩
    have eD : R % (V + 1) = D := by
      rw [hDD, hR]
      unfold dgg
      rw [show N - (j + 1) = N - 1 - j by omega]
    have hDl : D < V + 1 := by rw [hDD]; exact dgg_lt
    have er : rmd (nI R) (nI (V + 1)) = nI D := by
      unfold rmd
      rw [pk_rem (by omega) (by omega) (by omega), eD]
    have ed : nI R / nI (V + 1) = nI (R / (V + 1)) := pk_div (by omega) (by omega) (by omega)
    have eR : R / (V + 1) = cb / (V + 1) ^ (N - j) := by
      rw [hR, Nat.div_div_eq_div_mul, ← Nat.pow_succ, show (N - (j + 1)).succ = N - j by omega]
    have e1 : nI V + 1 = nI (V + 1) := nI_1 V
    have e0 : ¬ nI (V + 1) = 0 := nI_ne0 (by omega) (by omega)
    have v6 : vp_in (nI j) 6 := vp_in_nI (by omega) (by decide)
    have vj : (nI j).toNatClampNeg = j := nI_clamp (by omega)
    have g := (h57 j hjN).1
    have g3 := (h57 j hjN).2
    rw [WP_eq, k107_31]
    by_cases c2 : hn j = h
    · have c3 : nI (hn j) = nI h := by rw [c2]
      rw [hr1 j hjN c2, ← hDD]
      unfold enc
      by_cases c4 : D = V
      · have c5 : nI D = nI V := by rw [c4]
        simp only [e_lI0, e_lR0, e_st0, e_lI1, e_lR1, e_st1, e_lI2, e_lR2, e_st2, e_lI3, e_lR3, e_st3, e_lI4, e_lR4, e_st4, e_lI5, e_lR5, e_st5, e_lI6, e_lR6, e_st6, e_lI7, e_lR7, e_st7, e_lI8, e_lR8, e_st8, e_swn, e_swc, e_sw0, e_sw1, e_sw2, e_sw3, e_sw4, e_sw5, e_sw6, e_sw7, e_sw8, e_sw9, Option.toList_some, Option.toList_none, List.cons_append, List.nil_append, List.length_cons, List.length_nil, Nat.reduceAdd, Nat.reduceLeDiff, Nat.zero_le, Nat.le_refl, true_and, and_true, WP_eq, Nat.reduceSub, if_true, if_false, Nat.reduceEqDiff, not_false_eq_true, i_10, i_01, Int32.reduceLT, Int32.reduceLE, true_or, or_true, ne_eq, fk_2 hk, fk_8 hk, fk_11 hk, fk_20 hk, fk_29 hk, fr_12_29_12 hr, fk_38 hk, fl_38 hl, fr_12_29_40 hr, fk_57 hk, fl_57 hl, en_107, c_105, c_81, k107_0, k107_1, k107_10, k107_11, k107_12, k107_15, k107_16, k107_17, k107_2, k107_20, k107_21, k107_22, k107_25, k107_26, k107_27, k107_28, k107_29, k107_33, k107_36, k107_37, k107_40, k107_42, k107_43, k107_44, k107_47, k107_48, k107_49, k107_5, k107_52, k107_53, k107_54, k107_55, k107_56, k107_59, k107_62, k107_63, k107_66, k107_67, k107_68, k107_71, k107_72, k107_73, k107_74, k107_75, k107_76, k107_77, k107_8, k107_80, k107_81, k107_82, k107_83, k107_84, k107_9, k107_90, k107_91, r_107, s_aload_n, s_goto, s_iadd, s_iaload20, s_icmp_ne, s_iconst, s_idiv, s_if_lt, s_if_ne, s_iinc, s_iload, s_iload_n, s_irem, s_istore, s_istore_n, s_isub, sg_12_12, sg_12_33, sg_12_40, sg_12_42, c1, v6, vj, g, c3, hV, e1, e0, er, c5, c4]
      · have c5 : ¬ nI D = nI V := fun z => c4 ((nI_eq (by omega) (by omega)).mp z)
        simp only [e_lI0, e_lR0, e_st0, e_lI1, e_lR1, e_st1, e_lI2, e_lR2, e_st2, e_lI3, e_lR3, e_st3, e_lI4, e_lR4, e_st4, e_lI5, e_lR5, e_st5, e_lI6, e_lR6, e_st6, e_lI7, e_lR7, e_st7, e_lI8, e_lR8, e_st8, e_swn, e_swc, e_sw0, e_sw1, e_sw2, e_sw3, e_sw4, e_sw5, e_sw6, e_sw7, e_sw8, e_sw9, Option.toList_some, Option.toList_none, List.cons_append, List.nil_append, List.length_cons, List.length_nil, Nat.reduceAdd, Nat.reduceLeDiff, Nat.zero_le, Nat.le_refl, true_and, and_true, WP_eq, Nat.reduceSub, if_true, if_false, Nat.reduceEqDiff, not_false_eq_true, i_10, i_01, Int32.reduceLT, Int32.reduceLE, true_or, or_true, ne_eq, fk_2 hk, fk_8 hk, fk_11 hk, fk_20 hk, fk_29 hk, fr_12_29_12 hr, fk_38 hk, fl_38 hl, fr_12_29_40 hr, fk_57 hk, fl_57 hl, en_107, c_105, c_81, k107_0, k107_1, k107_10, k107_11, k107_12, k107_15, k107_16, k107_17, k107_2, k107_20, k107_21, k107_22, k107_25, k107_26, k107_27, k107_28, k107_29, k107_33, k107_36, k107_37, k107_40, k107_42, k107_43, k107_44, k107_47, k107_48, k107_49, k107_5, k107_52, k107_53, k107_54, k107_55, k107_56, k107_59, k107_62, k107_63, k107_66, k107_67, k107_68, k107_71, k107_72, k107_73, k107_74, k107_75, k107_76, k107_77, k107_8, k107_80, k107_81, k107_82, k107_83, k107_84, k107_9, k107_90, k107_91, r_107, s_aload_n, s_goto, s_iadd, s_iaload20, s_icmp_ne, s_iconst, s_idiv, s_if_lt, s_if_ne, s_iinc, s_iload, s_iload_n, s_irem, s_istore, s_istore_n, s_isub, sg_12_12, sg_12_33, sg_12_40, sg_12_42, c1, v6, vj, g, c3, hV, e1, e0, er, c5, c4]
    · have c3 : ¬ nI (hn j) = nI h := fun z => c2 ((nI_eq (by omega) (by omega)).mp z)
      simp only [e_lI0, e_lR0, e_st0, e_lI1, e_lR1, e_st1, e_lI2, e_lR2, e_st2, e_lI3, e_lR3, e_st3, e_lI4, e_lR4, e_st4, e_lI5, e_lR5, e_st5, e_lI6, e_lR6, e_st6, e_lI7, e_lR7, e_st7, e_lI8, e_lR8, e_st8, e_swn, e_swc, e_sw0, e_sw1, e_sw2, e_sw3, e_sw4, e_sw5, e_sw6, e_sw7, e_sw8, e_sw9, Option.toList_some, Option.toList_none, List.cons_append, List.nil_append, List.length_cons, List.length_nil, Nat.reduceAdd, Nat.reduceLeDiff, Nat.zero_le, Nat.le_refl, true_and, and_true, WP_eq, Nat.reduceSub, if_true, if_false, Nat.reduceEqDiff, not_false_eq_true, i_10, i_01, Int32.reduceLT, Int32.reduceLE, true_or, or_true, ne_eq, fk_2 hk, fk_8 hk, fk_11 hk, fk_20 hk, fk_29 hk, fr_12_29_12 hr, fk_38 hk, fl_38 hl, fr_12_29_40 hr, fk_57 hk, fl_57 hl, en_107, c_105, c_81, k107_0, k107_1, k107_10, k107_11, k107_12, k107_15, k107_16, k107_17, k107_2, k107_20, k107_21, k107_22, k107_25, k107_26, k107_27, k107_28, k107_29, k107_33, k107_36, k107_37, k107_40, k107_42, k107_43, k107_44, k107_47, k107_48, k107_49, k107_5, k107_52, k107_53, k107_54, k107_55, k107_56, k107_59, k107_62, k107_63, k107_66, k107_67, k107_68, k107_71, k107_72, k107_73, k107_74, k107_75, k107_76, k107_77, k107_8, k107_80, k107_81, k107_82, k107_83, k107_84, k107_9, k107_90, k107_91, r_107, s_aload_n, s_goto, s_iadd, s_iaload20, s_icmp_ne, s_iconst, s_idiv, s_if_lt, s_if_ne, s_iinc, s_iload, s_iload_n, s_irem, s_istore, s_istore_n, s_isub, sg_12_12, sg_12_33, sg_12_40, sg_12_42, c1, v6, vj, g, c3, hV, e1, e0, ed]
      rw [k107_87, s_goto]
      refine ih _ _ (by omega) i_sm eR (fun k h1 h2 => ?_)
      by_cases e : k = j
      · rw [e]; exact c2
      · exact hne k (by omega) h2
