def wtP (iv : Nat → Nat → Nat → Int32) (P T : Nat) (w : Int32) : Nat → Bool := wtg (iv 20 38) (iv 20 42) (ruW (iv 20 47) (pick (iv 20 46) (nI T) P)) (nI T) w
set_option maxRecDepth 100000 in
set_option maxHeartbeats 4000000 in
theorem L_plan {d : Nat} {w : Int32} {L : Nat} {xs : Fn} {n : Nat} {kd ln : Nat → Nat} {iv : Nat → Nat → Nat → Int32} {rv : Nat → Nat → Nat → Nat} {S C Hn V E P T : Nat} {lst : Nat → Nat} (hI : Inv L xs n kd ln iv rv S C Hn V E P T lst) {Q : Rt} {p : Nat → Bool} (hp : p = wtP iv P T w) {N : Nat} (hN : N = (sc p Hn).1)
    (hQ1 : (N = 0 ∨ 6 < N) → ∀ iv', CF iv iv' → Q (some (.inl 0)) ((n, kd, ln), iv', rv))
    (hQ2 : 0 < N → N ≤ 6 → ∀ iv' bs, CF iv iv' → iv' 6 11 8 = nI N → (∀ k, k < N → iv' 20 12 k = nI ((sc p Hn).2 k)) → iv' 6 11 10 = nI bs → BI V (iv 20 52) w (cl (iv 20 54)) (fun k v => dst (cl (iv 20 39) ((sc p Hn).2 k)) (cl (iv 20 53) v)) (N - rms (iv 20 52) w (cl (iv 20 54)) V) N (iv' 20 15) bs ((V + 1) ^ N) → Q (some (.inl 1)) ((n, kd, ln), iv', rv)) : MW (d + 14) 77 [.inr 2, .inl w] ((n, kd, ln), iv, rv) Q := by
  obtain ⟨⟨hk, hl, hr, hn, hkn, hL, hX⟩, hS, h1, h2, h3, h4, h5, h6, h7⟩ := id hI
  obtain ⟨z1, z2, z3, z4, z5, z6, z7, z8, z9, z10, z11, z12, z13, z14, z15, z16, z17, z18⟩ := id hS
  obtain ⟨hka, wk, ha⟩ := pick_is (t := nI T) h4 (fk_10 hk)
  have hH := h3.1
  simp only [e_lI0, e_lR0, e_st0, e_lI1, e_lR1, e_st1, e_lI2, e_lR2, e_st2, e_lI3, e_lR3, e_st3, e_lI4, e_lR4, e_st4, e_lI5, e_lR5, e_st5, e_lI6, e_lR6, e_st6, e_lI7, e_lR7, e_st7, e_lI8, e_lR8, e_st8, e_swn, e_swc, e_sw0, e_sw1, e_sw2, e_sw3, e_sw4, e_sw5, e_sw6, e_sw7, e_sw8, e_sw9, Option.toList_some, Option.toList_none, List.cons_append, List.nil_append, List.length_cons, List.length_nil, Nat.reduceAdd, Nat.reduceLeDiff, Nat.zero_le, Nat.le_refl, true_and, and_true, WP_eq, Nat.reduceSub, if_true, if_false, Nat.reduceEqDiff, not_false_eq_true, i_10, i_01, Int32.reduceLT, Int32.reduceLE, true_or, or_true, ne_eq, fk_2 hk, fk_8 hk, fk_11 hk, fk_20 hk, fk_29 hk, fr_11_2_5 hr, fr_11_2_6 hr, fr_11_2_1 hr, fk_4 hk, fl_4 hl, fr_11_2_3 hr, fk_6 hk, fl_6 hl, en_77, c_13, c_14, c_15, c_16, c_30, c_70, k77_0, k77_1, k77_100, k77_103, k77_104, k77_107, k77_108, k77_109, k77_11, k77_112, k77_113, k77_114, k77_117, k77_12, k77_120, k77_124, k77_127, k77_13, k77_130, k77_16, k77_19, k77_20, k77_22, k77_23, k77_26, k77_29, k77_30, k77_33, k77_34, k77_35, k77_37, k77_39, k77_4, k77_42, k77_43, k77_46, k77_47, k77_49, k77_5, k77_50, k77_53, k77_56, k77_57, k77_60, k77_61, k77_63, k77_66, k77_69, k77_72, k77_73, k77_74, k77_77, k77_8, k77_81, k77_83, k77_84, k77_87, k77_90, k77_91, k77_94, k77_95, k77_96, k77_99, r_77, s_aaload, s_aload, s_aload_n, s_astore, s_astore_n, s_goto, s_icmp_ge, s_icmp_ne, s_iconst, s_if_ne, s_iinc, s_iload_n, s_istore_n, sg_10_0, sg_11_1, sg_11_10, sg_11_12, sg_11_13, sg_11_3, sg_11_5, sg_11_6, sg_4_0, sg_4_1, en_13, k13_0, k13_1, k13_10, k13_11, k13_14, k13_17, k13_2, k13_5, k13_6, k13_7, s_return, s_sipush, sp_6_10, sp_6_8, sp_6_9, z9, L_inForce hk hl hr z13 h4]
  rw [← WP_eq]
  refine lp_plan1 (d := d + 12) (iv0 := iv) hk hl hr h3 z3 hka ha z9 hp (fun h iv' hF => hQ1 (Or.inr (by omega)) iv' hF) (fun h6' iv1 l4 hP => ?_) Hn 0 _ _ (by omega) (Nat.zero_le _) ⟨⟨fun K k1 k2 => ?_, fun b b1 => ?_⟩, ?_, ?_, ?_, fun k hk' => absurd hk' (Nat.not_lt_zero _)⟩
  · obtain ⟨hF, q8, q9, q10, q12⟩ := hP
    rw [← hN] at h6' q8 q12
    have g52 : iv1 20 52 = iv 20 52 := hF.2 52 (by decide)
    have g53 : iv1 20 53 = iv 20 53 := hF.2 53 (by decide)
    have g54 : iv1 20 54 = iv 20 54 := hF.2 54 (by decide)
    rw [WP_eq, k77_80]
    simp only [e_lI0, e_lR0, e_st0, e_lI1, e_lR1, e_st1, e_lI2, e_lR2, e_st2, e_lI3, e_lR3, e_st3, e_lI4, e_lR4, e_st4, e_lI5, e_lR5, e_st5, e_lI6, e_lR6, e_st6, e_lI7, e_lR7, e_st7, e_lI8, e_lR8, e_st8, e_swn, e_swc, e_sw0, e_sw1, e_sw2, e_sw3, e_sw4, e_sw5, e_sw6, e_sw7, e_sw8, e_sw9, Option.toList_some, Option.toList_none, List.cons_append, List.nil_append, List.length_cons, List.length_nil, Nat.reduceAdd, Nat.reduceLeDiff, Nat.zero_le, Nat.le_refl, true_and, and_true, WP_eq, Nat.reduceSub, if_true, if_false, Nat.reduceEqDiff, not_false_eq_true, i_10, i_01, Int32.reduceLT, Int32.reduceLE, true_or, or_true, ne_eq, fk_2 hk, fk_8 hk, fk_11 hk, fk_20 hk, fk_29 hk, fr_11_2_5 hr, fr_11_2_6 hr, fr_11_2_1 hr, fk_4 hk, fl_4 hl, fr_11_2_3 hr, fk_6 hk, fl_6 hl, en_77, c_13, c_14, c_15, c_16, c_30, c_70, k77_0, k77_1, k77_100, k77_103, k77_104, k77_107, k77_108, k77_109, k77_11, k77_112, k77_113, k77_114, k77_117, k77_12, k77_120, k77_124, k77_127, k77_13, k77_130, k77_16, k77_19, k77_20, k77_22, k77_23, k77_26, k77_29, k77_30, k77_33, k77_34, k77_35, k77_37, k77_39, k77_4, k77_42, k77_43, k77_46, k77_47, k77_49, k77_5, k77_50, k77_53, k77_56, k77_57, k77_60, k77_61, k77_63, k77_66, k77_69, k77_72, k77_73, k77_74, k77_77, k77_8, k77_80, k77_81, k77_83, k77_84, k77_87, k77_90, k77_91, k77_94, k77_95, k77_96, k77_99, r_77, s_aaload, s_aload, s_aload_n, s_astore, s_astore_n, s_goto, s_icmp_ge, s_icmp_ne, s_iconst, s_if_ne, s_iinc, s_iload_n, s_istore_n, sg_10_0, sg_11_1, sg_11_10, sg_11_12, sg_11_13, sg_11_3, sg_11_5, sg_11_6, sg_4_0, sg_4_1]
    rw [← WP_eq]
    refine lp_plan2 (d := d + 12) (V := V) (iv1 := iv1) (p := vsl (iv 20 52) w) hk hl hr (by rw [hF.1 10 (by decide) (by decide), g52, g53, g54]; exact h6) (by rw [hF.1 11 (by decide) (by decide)]; exact z7) (by rw [g52]) (fun iv2 hV2 => ?_) V 0 iv1 (by omega) ⟨⟨fun _ _ _ => rfl, fun _ _ _ _ => rfl, fun _ _ => rfl⟩, q9, fun k hk' => absurd hk' (Nat.not_lt_zero _)⟩
    obtain ⟨hF2, r9, r17⟩ := hV2
    rw [g53, g54] at r17
    have r8 : iv2 6 11 8 = nI N := by rw [hF2.2.2 8 (by decide)]; exact q8
    have r10 : iv2 6 11 10 = 600 := by rw [hF2.2.2 10 (by decide)]; exact q10
    rw [WP_eq, k77_123]
    by_cases hN0 : N = 0
    · have r8' : iv2 6 11 8 = 0 := by rw [r8, hN0]; rfl
      simp only [e_lI0, e_lR0, e_st0, e_lI1, e_lR1, e_st1, e_lI2, e_lR2, e_st2, e_lI3, e_lR3, e_st3, e_lI4, e_lR4, e_st4, e_lI5, e_lR5, e_st5, e_lI6, e_lR6, e_st6, e_lI7, e_lR7, e_st7, e_lI8, e_lR8, e_st8, e_swn, e_swc, e_sw0, e_sw1, e_sw2, e_sw3, e_sw4, e_sw5, e_sw6, e_sw7, e_sw8, e_sw9, Option.toList_some, Option.toList_none, List.cons_append, List.nil_append, List.length_cons, List.length_nil, Nat.reduceAdd, Nat.reduceLeDiff, Nat.zero_le, Nat.le_refl, true_and, and_true, WP_eq, Nat.reduceSub, if_true, if_false, Nat.reduceEqDiff, not_false_eq_true, i_10, i_01, Int32.reduceLT, Int32.reduceLE, true_or, or_true, ne_eq, fk_2 hk, fk_8 hk, fk_11 hk, fk_20 hk, fk_29 hk, fr_11_2_5 hr, fr_11_2_6 hr, fr_11_2_1 hr, fk_4 hk, fl_4 hl, fr_11_2_3 hr, fk_6 hk, fl_6 hl, fr_6_11_7 hr, fk_19 hk, fl_19 hl, en_77, c_13, c_14, c_15, c_16, c_30, c_70, k77_0, k77_1, k77_100, k77_103, k77_104, k77_107, k77_108, k77_109, k77_11, k77_112, k77_113, k77_114, k77_117, k77_12, k77_120, k77_124, k77_127, k77_13, k77_130, k77_16, k77_19, k77_20, k77_22, k77_23, k77_26, k77_29, k77_30, k77_33, k77_34, k77_35, k77_37, k77_39, k77_4, k77_42, k77_43, k77_46, k77_47, k77_49, k77_5, k77_50, k77_53, k77_56, k77_57, k77_60, k77_61, k77_63, k77_66, k77_69, k77_72, k77_73, k77_74, k77_77, k77_8, k77_81, k77_83, k77_84, k77_87, k77_90, k77_91, k77_94, k77_95, k77_96, k77_99, r_77, s_aaload, s_aload, s_aload_n, s_astore, s_astore_n, s_goto, s_icmp_ge, s_icmp_ne, s_iconst, s_if_ne, s_iinc, s_iload_n, s_istore_n, sg_10_0, sg_11_1, sg_11_10, sg_11_12, sg_11_13, sg_11_3, sg_11_5, sg_11_6, sg_4_0, sg_4_1, en_16, c_18, c_22, k16_0, k16_1, k16_10, k16_11, k16_12, k16_14, k16_15, k16_18, k16_21, k16_22, k16_23, k16_26, k16_27, k16_28, k16_29, k16_30, k16_33, k16_37, k16_38, k16_4, k16_41, k16_42, k16_46, k16_47, k16_48, k16_49, k16_52, k16_53, k16_54, k16_55, k16_56, k16_59, k16_60, k16_7, k16_8, k16_9, r_16, s_iadd, s_iaload20, s_isub, sg_6_7, sg_6_8, sg_6_9, r8']
      refine hQ1 (Or.inl hN0) iv2 ⟨fun K k1 k2 => ?_, fun b b1 => ?_⟩
      · rw [hF2.1 K k1 k2, hF.1 K k1 k2]
      · rw [hF2.2.1 b (by omega) (by omega) (by omega), hF.2 b b1]
    · have hV4 := h6.1
      have hc := sc_n (p := vsl (iv 20 52) w) V
      simp only [e_lI0, e_lR0, e_st0, e_lI1, e_lR1, e_st1, e_lI2, e_lR2, e_st2, e_lI3, e_lR3, e_st3, e_lI4, e_lR4, e_st4, e_lI5, e_lR5, e_st5, e_lI6, e_lR6, e_st6, e_lI7, e_lR7, e_st7, e_lI8, e_lR8, e_st8, e_swn, e_swc, e_sw0, e_sw1, e_sw2, e_sw3, e_sw4, e_sw5, e_sw6, e_sw7, e_sw8, e_sw9, Option.toList_some, Option.toList_none, List.cons_append, List.nil_append, List.length_cons, List.length_nil, Nat.reduceAdd, Nat.reduceLeDiff, Nat.zero_le, Nat.le_refl, true_and, and_true, WP_eq, Nat.reduceSub, if_true, if_false, Nat.reduceEqDiff, not_false_eq_true, i_10, i_01, Int32.reduceLT, Int32.reduceLE, true_or, or_true, ne_eq, fk_2 hk, fk_8 hk, fk_11 hk, fk_20 hk, fk_29 hk, fr_11_2_5 hr, fr_11_2_6 hr, fr_11_2_1 hr, fk_4 hk, fl_4 hl, fr_11_2_3 hr, fk_6 hk, fl_6 hl, en_77, c_13, c_14, c_15, c_16, c_30, c_70, k77_0, k77_1, k77_100, k77_103, k77_104, k77_107, k77_108, k77_109, k77_11, k77_112, k77_113, k77_114, k77_117, k77_12, k77_120, k77_124, k77_127, k77_13, k77_130, k77_16, k77_19, k77_20, k77_22, k77_23, k77_26, k77_29, k77_30, k77_33, k77_34, k77_35, k77_37, k77_39, k77_4, k77_42, k77_43, k77_46, k77_47, k77_49, k77_5, k77_50, k77_53, k77_56, k77_57, k77_60, k77_61, k77_63, k77_66, k77_69, k77_72, k77_73, k77_74, k77_77, k77_8, k77_81, k77_83, k77_84, k77_87, k77_90, k77_91, k77_94, k77_95, k77_96, k77_99, r_77, s_aaload, s_aload, s_aload_n, s_astore, s_astore_n, s_goto, s_icmp_ge, s_icmp_ne, s_iconst, s_if_ne, s_iinc, s_iload_n, s_istore_n, sg_10_0, sg_11_1, sg_11_10, sg_11_12, sg_11_13, sg_11_3, sg_11_5, sg_11_6, sg_4_0, sg_4_1]
      refine L_findBest (d := d) (V := V) (N := N) (M := (sc (vsl (iv 20 52) w) V).1) (vw := iv 20 52) (w := w) (many := cl (iv 20 54)) (hp := fun k => cl (iv 20 39) ((sc p Hn).2 k)) (vp := cl (iv 20 53)) (vn := (sc (vsl (iv 20 52) w) V).2) hk hl hr r8 r9 h6' (by omega) (by omega) hV4 r10 VN.of (fun v hv => ?_) (fun v hv => ?_) (fun i hi => ?_) (fun k hk' => ?_) rms_of (fun iv3 bs hC hb hB => ?_)
      · obtain ⟨-, -, -, -, -, -, q, b1, b2, e⟩ := h6.2 v hv
        rw [cl_k e (by omega)]
        exact b2
      · obtain ⟨-, -, -, -, -, ⟨q, b1, e⟩, -⟩ := h6.2 v hv
        rw [cl_k e (by omega)]
        exact b1
      · have hvi := (sc_in V i hi).2
        obtain ⟨-, -, -, -, -, ⟨q, b1, e⟩, q', b2, b3, e'⟩ := h6.2 _ hvi
        refine ⟨(r17 i hi).1, ?_, ?_⟩
        · rw [(r17 i hi).2.1, cl_k e (by omega)]; exact e
        · rw [(r17 i hi).2.2, cl_k e' (by omega)]; exact e'
      · have hhi := (sc_in (p := p) Hn k (by omega)).2
        obtain ⟨-, ⟨q, b1, e⟩, -⟩ := h3.2.2.2.2.1 _ hhi
        show _ = nI (cl (iv 20 39) ((sc p Hn).2 k)) ∧ cl (iv 20 39) ((sc p Hn).2 k) < 100
        rw [hF2.2.1 13 (by decide) (by decide) (by decide), (q12 k hk').2, cl_k e (by omega)]
        exact ⟨e, b1⟩
      · simp only [e_lI0, e_lR0, e_st0, e_lI1, e_lR1, e_st1, e_lI2, e_lR2, e_st2, e_lI3, e_lR3, e_st3, e_lI4, e_lR4, e_st4, e_lI5, e_lR5, e_st5, e_lI6, e_lR6, e_st6, e_lI7, e_lR7, e_st7, e_lI8, e_lR8, e_st8, e_swn, e_swc, e_sw0, e_sw1, e_sw2, e_sw3, e_sw4, e_sw5, e_sw6, e_sw7, e_sw8, e_sw9, Option.toList_some, Option.toList_none, List.cons_append, List.nil_append, List.length_cons, List.length_nil, Nat.reduceAdd, Nat.reduceLeDiff, Nat.zero_le, Nat.le_refl, true_and, and_true, WP_eq, Nat.reduceSub, if_true, if_false, Nat.reduceEqDiff, not_false_eq_true, i_10, i_01, Int32.reduceLT, Int32.reduceLE, true_or, or_true, ne_eq, fk_2 hk, fk_8 hk, fk_11 hk, fk_20 hk, fk_29 hk, fr_11_2_5 hr, fr_11_2_6 hr, fr_11_2_1 hr, fk_4 hk, fl_4 hl, fr_11_2_3 hr, fk_6 hk, fl_6 hl, en_77, c_13, c_14, c_15, c_16, c_30, c_70, k77_0, k77_1, k77_100, k77_103, k77_104, k77_107, k77_108, k77_109, k77_11, k77_112, k77_113, k77_114, k77_117, k77_12, k77_120, k77_124, k77_127, k77_13, k77_130, k77_16, k77_19, k77_20, k77_22, k77_23, k77_26, k77_29, k77_30, k77_33, k77_34, k77_35, k77_37, k77_39, k77_4, k77_42, k77_43, k77_46, k77_47, k77_49, k77_5, k77_50, k77_53, k77_56, k77_57, k77_60, k77_61, k77_63, k77_66, k77_69, k77_72, k77_73, k77_74, k77_77, k77_8, k77_81, k77_83, k77_84, k77_87, k77_90, k77_91, k77_94, k77_95, k77_96, k77_99, r_77, s_aaload, s_aload, s_aload_n, s_astore, s_astore_n, s_goto, s_icmp_ge, s_icmp_ne, s_iconst, s_if_ne, s_iinc, s_iload_n, s_istore_n, sg_10_0, sg_11_1, sg_11_10, sg_11_12, sg_11_13, sg_11_3, sg_11_5, sg_11_6, sg_4_0, sg_4_1]
        refine hQ2 (by omega) h6' iv3 bs ⟨fun K k1 k2 => ?_, fun b b1 => ?_⟩ ?_ (fun k hk' => ?_) hb hB
        · rw [hC.1 K k1 k2, hF2.1 K k1 k2, hF.1 K k1 k2]
        · rw [hC.2.1 b (by omega) (by omega) (by omega) (by omega), hF2.2.1 b (by omega) (by omega) (by omega), hF.2 b b1]
        · rw [hC.2.2 8 (by decide)]; exact r8
        · rw [hC.2.1 12 (by decide) (by decide) (by decide) (by decide), hF2.2.1 12 (by decide) (by decide) (by decide)]
          exact (q12 k hk').1
  · rw [u3_c k1, u3_c k1, u3_c k1]
  · rw [u3_c (by decide), u3_c (by decide), u3_c (by decide)]
  · rw [u3_j (by decide), u3_j (by decide), u3_s]
    rfl
  · rw [u3_j (by decide), u3_s]
  · rw [u3_s]
set_option maxRecDepth 100000 in
set_option maxHeartbeats 4000000 in
theorem lp_vof {d N h : Nat} {hn : Nat → Nat} {r : Int32} {n : Nat} {kd ln : Nat → Nat} {iv : Nat → Nat → Nat → Int32} {rv : Nat → Nat → Nat → Nat} {Q : Rt} {bc bs : Nat} (hk : FixK kd) (hl : FixL ln) (hr : FixR rv) (hN : iv 6 11 8 = nI N) (hN6 : N ≤ 6) (h12 : ∀ k, k < N → iv 20 12 k = nI (hn k) ∧ hn k < 30) (hh : h < 30) (hr1 : ∀ k, k < N → hn k = h → r = iv 20 15 k) (hr2 : (∀ k, k < N → hn k ≠ h) → r = -1) :
    ∀ j i, i + j = N → (∀ k, k < i → hn k ≠ h) → WPc (MW d) 17 Q 2 [some (.inr 11), some (.inl (nI h)), some (.inl (nI i))] [] ((n, kd, ln), iv, rv) bc bs = Q (some (.inl r)) ((n, kd, ln), iv, rv) := by
  intro j
  induction j with
  | zero =>
    intro i hi hne
    obtain rfl : i = N := by omega
    rw [WP_eq, k17_2]
    simp only [e_lI0, e_lR0, e_st0, e_lI1, e_lR1, e_st1, e_lI2, e_lR2, e_st2, e_lI3, e_lR3, e_st3, e_lI4, e_lR4, e_st4, e_lI5, e_lR5, e_st5, e_lI6, e_lR6, e_st6, e_lI7, e_lR7, e_st7, e_lI8, e_lR8, e_st8, e_swn, e_swc, e_sw0, e_sw1, e_sw2, e_sw3, e_sw4, e_sw5, e_sw6, e_sw7, e_sw8, e_sw9, Option.toList_some, Option.toList_none, List.cons_append, List.nil_append, List.length_cons, List.length_nil, Nat.reduceAdd, Nat.reduceLeDiff, Nat.zero_le, Nat.le_refl, true_and, and_true, WP_eq, Nat.reduceSub, if_true, if_false, Nat.reduceEqDiff, not_false_eq_true, i_10, i_01, Int32.reduceLT, Int32.reduceLE, true_or, or_true, ne_eq, fk_2 hk, fk_8 hk, fk_11 hk, fk_20 hk, fk_29 hk, fr_6_11_0 hr, fk_12 hk, fl_12 hl, fr_6_11_3 hr, fk_15 hk, fl_15 hl, en_17, k17_0, k17_1, k17_10, k17_11, k17_14, k17_15, k17_16, k17_17, k17_20, k17_21, k17_24, k17_25, k17_26, k17_27, k17_3, k17_30, k17_33, k17_34, k17_4, k17_7, r_17, s_aload_n, s_goto, s_iaload20, s_icmp_ge, s_icmp_ne, s_iconst, s_iinc, s_iload_n, s_istore_n, sg_6_0, sg_6_3, sg_6_8, hN, nI_self_le]
    rw [hr2 hne]
  | succ j ih =>
    intro i hi hne
    have hiN : i < N := by omega
    have c1 : ¬ nI N ≤ nI i := nI_ge hiN (by omega)
    have q3 : vp_in (nI i) 6 := vp_in_nI (by omega) (by decide)
    have q4 : (nI i).toNatClampNeg = i := nI_clamp (by omega)
    have g := (h12 i hiN).1
    have g3 := (h12 i hiN).2
    rw [WP_eq, k17_2]
    by_cases c2 : hn i = h
    · have c3 : nI (hn i) = nI h := by rw [c2]
      simp only [e_lI0, e_lR0, e_st0, e_lI1, e_lR1, e_st1, e_lI2, e_lR2, e_st2, e_lI3, e_lR3, e_st3, e_lI4, e_lR4, e_st4, e_lI5, e_lR5, e_st5, e_lI6, e_lR6, e_st6, e_lI7, e_lR7, e_st7, e_lI8, e_lR8, e_st8, e_swn, e_swc, e_sw0, e_sw1, e_sw2, e_sw3, e_sw4, e_sw5, e_sw6, e_sw7, e_sw8, e_sw9, Option.toList_some, Option.toList_none, List.cons_append, List.nil_append, List.length_cons, List.length_nil, Nat.reduceAdd, Nat.reduceLeDiff, Nat.zero_le, Nat.le_refl, true_and, and_true, WP_eq, Nat.reduceSub, if_true, if_false, Nat.reduceEqDiff, not_false_eq_true, i_10, i_01, Int32.reduceLT, Int32.reduceLE, true_or, or_true, ne_eq, fk_2 hk, fk_8 hk, fk_11 hk, fk_20 hk, fk_29 hk, fr_6_11_0 hr, fk_12 hk, fl_12 hl, fr_6_11_3 hr, fk_15 hk, fl_15 hl, en_17, k17_0, k17_1, k17_10, k17_11, k17_14, k17_15, k17_16, k17_17, k17_20, k17_21, k17_24, k17_25, k17_26, k17_27, k17_3, k17_30, k17_33, k17_34, k17_4, k17_7, r_17, s_aload_n, s_goto, s_iaload20, s_icmp_ge, s_icmp_ne, s_iconst, s_iinc, s_iload_n, s_istore_n, sg_6_0, sg_6_3, sg_6_8, hN, c1, q3, q4, g, c3]
      rw [hr1 i hiN c2]
    · have c3 : ¬ nI (hn i) = nI h := fun z => c2 ((nI_eq (by omega) (by omega)).mp z)
      simp only [e_lI0, e_lR0, e_st0, e_lI1, e_lR1, e_st1, e_lI2, e_lR2, e_st2, e_lI3, e_lR3, e_st3, e_lI4, e_lR4, e_st4, e_lI5, e_lR5, e_st5, e_lI6, e_lR6, e_st6, e_lI7, e_lR7, e_st7, e_lI8, e_lR8, e_st8, e_swn, e_swc, e_sw0, e_sw1, e_sw2, e_sw3, e_sw4, e_sw5, e_sw6, e_sw7, e_sw8, e_sw9, Option.toList_some, Option.toList_none, List.cons_append, List.nil_append, List.length_cons, List.length_nil, Nat.reduceAdd, Nat.reduceLeDiff, Nat.zero_le, Nat.le_refl, true_and, and_true, WP_eq, Nat.reduceSub, if_true, if_false, Nat.reduceEqDiff, not_false_eq_true, i_10, i_01, Int32.reduceLT, Int32.reduceLE, true_or, or_true, ne_eq, fk_2 hk, fk_8 hk, fk_11 hk, fk_20 hk, fk_29 hk, fr_6_11_0 hr, fk_12 hk, fl_12 hl, fr_6_11_3 hr, fk_15 hk, fl_15 hl, en_17, k17_0, k17_1, k17_10, k17_11, k17_14, k17_15, k17_16, k17_17, k17_20, k17_21, k17_24, k17_25, k17_26, k17_27, k17_3, k17_30, k17_33, k17_34, k17_4, k17_7, r_17, s_aload_n, s_goto, s_iaload20, s_icmp_ge, s_icmp_ne, s_iconst, s_iinc, s_iload_n, s_istore_n, sg_6_0, sg_6_3, sg_6_8, hN, c1, q3, q4, g, c3]
      rw [← WP_eq, nI_1]
      refine ih (i + 1) (by omega) (fun k hk' => ?_)
      by_cases e : k = i
      · rw [e]; exact c2
      · exact hne k (by omega)
set_option maxRecDepth 100000 in
set_option maxHeartbeats 4000000 in
theorem L_vof {d N h : Nat} {hn : Nat → Nat} {r : Int32} {n : Nat} {kd ln : Nat → Nat} {iv : Nat → Nat → Nat → Int32} {rv : Nat → Nat → Nat → Nat} {Q : Rt} (hk : FixK kd) (hl : FixL ln) (hr : FixR rv) (hN : iv 6 11 8 = nI N) (hN6 : N ≤ 6) (h12 : ∀ k, k < N → iv 20 12 k = nI (hn k) ∧ hn k < 30) (hh : h < 30) (hr1 : ∀ k, k < N → hn k = h → r = iv 20 15 k) (hr2 : (∀ k, k < N → hn k ≠ h) → r = -1) : MW (d + 1) 17 [.inr 11, .inl (nI h)] ((n, kd, ln), iv, rv) Q = Q (some (.inl r)) ((n, kd, ln), iv, rv) := by
  simp only [e_lI0, e_lR0, e_st0, e_lI1, e_lR1, e_st1, e_lI2, e_lR2, e_st2, e_lI3, e_lR3, e_st3, e_lI4, e_lR4, e_st4, e_lI5, e_lR5, e_st5, e_lI6, e_lR6, e_st6, e_lI7, e_lR7, e_st7, e_lI8, e_lR8, e_st8, e_swn, e_swc, e_sw0, e_sw1, e_sw2, e_sw3, e_sw4, e_sw5, e_sw6, e_sw7, e_sw8, e_sw9, Option.toList_some, Option.toList_none, List.cons_append, List.nil_append, List.length_cons, List.length_nil, Nat.reduceAdd, Nat.reduceLeDiff, Nat.zero_le, Nat.le_refl, true_and, and_true, WP_eq, Nat.reduceSub, if_true, if_false, Nat.reduceEqDiff, not_false_eq_true, i_10, i_01, Int32.reduceLT, Int32.reduceLE, true_or, or_true, ne_eq, fk_2 hk, fk_8 hk, fk_11 hk, fk_20 hk, fk_29 hk, fr_6_11_0 hr, fk_12 hk, fl_12 hl, fr_6_11_3 hr, fk_15 hk, fl_15 hl, en_17, k17_0, k17_1, k17_10, k17_11, k17_14, k17_15, k17_16, k17_17, k17_20, k17_21, k17_24, k17_25, k17_26, k17_27, k17_3, k17_30, k17_33, k17_34, k17_4, k17_7, r_17, s_aload_n, s_goto, s_iaload20, s_icmp_ge, s_icmp_ne, s_iconst, s_iinc, s_iload_n, s_istore_n, sg_6_0, sg_6_3, sg_6_8]
  rw [← WP_eq]
  exact lp_vof hk hl hr hN hN6 h12 hh hr1 hr2 N 0 (by omega) (fun k hk' => by omega)
