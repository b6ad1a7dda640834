set_option maxRecDepth 100000 in
set_option maxHeartbeats 4000000 in
theorem L_joinGroups {d N x y : Nat} {R : Nat → Nat} {n : Nat} {kd ln : Nat → Nat} {iv0 iv : Nat → Nat → Nat → Int32} {rv : Nat → Nat → Nat → Nat} {Q : Rt} (hk : FixK kd) (hl : FixL ln) (hr : FixR rv) (hN : iv0 1 20 1 = nI N) (hN6 : N ≤ 60) (hkd : ∀ i, i < N → kd (rv 33 21 i) = 3) (hinj : ∀ i j, i < N → j < N → rv 33 21 i = rv 33 21 j → i = j) (hR : ∀ i, i < N → R i < 60) (hx : x < 60) (hy : y < 60) (hB : BR N (rv 33 21) iv0 iv R)
    (hc : ∀ iv', BR N (rv 33 21) iv0 iv' (jg R (min x y) (max x y) N) → Q none ((n, kd, ln), iv', rv)) : MW (d + 1) 6 [.inr 20, .inl (nI x), .inl (nI y)] ((n, kd, ln), iv, rv) Q := by
  rcases Nat.lt_or_ge y x with h | h
  · have m1 : min x y = y := by omega
    have m2 : max x y = x := by omega
    have g1 : nI y < nI x := nI_lt h (by omega)
    have g2 : ¬ nI x < nI y := nI_nlt (by omega) (by omega)
    rw [m1, m2] at hc
    simp only [e_lI0, e_lR0, e_st0, e_lI1, e_lR1, e_st1, e_lI2, e_lR2, e_st2, e_lI3, e_lR3, e_st3, e_lI4, e_lR4, e_st4, e_lI5, e_lR5, e_st5, e_lI6, e_lR6, e_st6, e_lI7, e_lR7, e_st7, e_lI8, e_lR8, e_st8, e_swn, e_swc, e_sw0, e_sw1, e_sw2, e_sw3, e_sw4, e_sw5, e_sw6, e_sw7, e_sw8, e_sw9, Option.toList_some, Option.toList_none, List.cons_append, List.nil_append, List.length_cons, List.length_nil, Nat.reduceAdd, Nat.reduceLeDiff, Nat.zero_le, Nat.le_refl, true_and, and_true, WP_eq, Nat.reduceSub, if_true, if_false, Nat.reduceEqDiff, not_false_eq_true, i_10, i_01, Int32.reduceLT, Int32.reduceLE, true_or, or_true, ne_eq, fk_2 hk, fk_8 hk, fk_11 hk, fk_20 hk, fk_29 hk, fr_1_20_0 hr, fk_21 hk, fl_21 hl, en_6, k6_0, k6_1, k6_11, k6_13, k6_14, k6_18, k6_19, k6_22, k6_25, k6_26, k6_29, k6_31, k6_32, k6_35, k6_37, k6_40, k6_41, k6_44, k6_46, k6_47, k6_48, k6_5, k6_51, k6_54, k6_57, k6_6, k6_7, s_aaload, s_aload_n, s_goto, s_icmp_ge, s_icmp_ne, s_iconst, s_iinc, s_iload, s_iload_n, s_istore, s_istore_n, s_return, sg_1_0, sg_1_1, sg_3_2, sp_3_2]
    rw [k6_2, s_minp, if_pos g1]
    simp only [e_lI0, e_lR0, e_st0, e_lI1, e_lR1, e_st1, e_lI2, e_lR2, e_st2, e_lI3, e_lR3, e_st3, e_lI4, e_lR4, e_st4, e_lI5, e_lR5, e_st5, e_lI6, e_lR6, e_st6, e_lI7, e_lR7, e_st7, e_lI8, e_lR8, e_st8, e_swn, e_swc, e_sw0, e_sw1, e_sw2, e_sw3, e_sw4, e_sw5, e_sw6, e_sw7, e_sw8, e_sw9, Option.toList_some, Option.toList_none, List.cons_append, List.nil_append, List.length_cons, List.length_nil, Nat.reduceAdd, Nat.reduceLeDiff, Nat.zero_le, Nat.le_refl, true_and, and_true, WP_eq, Nat.reduceSub, if_true, if_false, Nat.reduceEqDiff, not_false_eq_true, i_10, i_01, Int32.reduceLT, Int32.reduceLE, true_or, or_true, ne_eq, fk_2 hk, fk_8 hk, fk_11 hk, fk_20 hk, fk_29 hk, fr_1_20_0 hr, fk_21 hk, fl_21 hl, en_6, k6_0, k6_1, k6_11, k6_13, k6_14, k6_18, k6_19, k6_22, k6_25, k6_26, k6_29, k6_31, k6_32, k6_35, k6_37, k6_40, k6_41, k6_44, k6_46, k6_47, k6_48, k6_5, k6_51, k6_54, k6_57, k6_6, k6_7, s_aaload, s_aload_n, s_goto, s_icmp_ge, s_icmp_ne, s_iconst, s_iinc, s_iload, s_iload_n, s_istore, s_istore_n, s_return, sg_1_0, sg_1_1, sg_3_2, sp_3_2]
    rw [k6_8, s_maxp, if_neg g2]
    simp only [e_lI0, e_lR0, e_st0, e_lI1, e_lR1, e_st1, e_lI2, e_lR2, e_st2, e_lI3, e_lR3, e_st3, e_lI4, e_lR4, e_st4, e_lI5, e_lR5, e_st5, e_lI6, e_lR6, e_st6, e_lI7, e_lR7, e_st7, e_lI8, e_lR8, e_st8, e_swn, e_swc, e_sw0, e_sw1, e_sw2, e_sw3, e_sw4, e_sw5, e_sw6, e_sw7, e_sw8, e_sw9, Option.toList_some, Option.toList_none, List.cons_append, List.nil_append, List.length_cons, List.length_nil, Nat.reduceAdd, Nat.reduceLeDiff, Nat.zero_le, Nat.le_refl, true_and, and_true, WP_eq, Nat.reduceSub, if_true, if_false, Nat.reduceEqDiff, not_false_eq_true, i_10, i_01, Int32.reduceLT, Int32.reduceLE, true_or, or_true, ne_eq, fk_2 hk, fk_8 hk, fk_11 hk, fk_20 hk, fk_29 hk, fr_1_20_0 hr, fk_21 hk, fl_21 hl, en_6, k6_0, k6_1, k6_11, k6_13, k6_14, k6_18, k6_19, k6_22, k6_25, k6_26, k6_29, k6_31, k6_32, k6_35, k6_37, k6_40, k6_41, k6_44, k6_46, k6_47, k6_48, k6_5, k6_51, k6_54, k6_57, k6_6, k6_7, s_aaload, s_aload_n, s_goto, s_icmp_ge, s_icmp_ne, s_iconst, s_iinc, s_iload, s_iload_n, s_istore, s_istore_n, s_return, sg_1_0, sg_1_1, sg_3_2, sp_3_2]
    rw [← WP_eq]
    refine lp_jg hk hl hr hN hN6 hkd hinj hR (by omega) hc N 0 iv (by omega) ⟨hB.1, fun i hi => ?_⟩
    rw [hB.2 i hi]
    unfold jg
    rw [if_neg (by omega)]
  · have m1 : min x y = x := by omega
    have m2 : max x y = y := by omega
    have g1 : ¬ nI y < nI x := nI_nlt h (by omega)
    rw [m1, m2] at hc
    have g2 : (if nI x < nI y then nI y else nI x) = nI y := by
      rcases Nat.lt_or_ge x y with h' | h'
      · exact if_pos (nI_lt h' (by omega))
      · obtain rfl : x = y := by omega
        exact ite_self _
    simp only [e_lI0, e_lR0, e_st0, e_lI1, e_lR1, e_st1, e_lI2, e_lR2, e_st2, e_lI3, e_lR3, e_st3, e_lI4, e_lR4, e_st4, e_lI5, e_lR5, e_st5, e_lI6, e_lR6, e_st6, e_lI7, e_lR7, e_st7, e_lI8, e_lR8, e_st8, e_swn, e_swc, e_sw0, e_sw1, e_sw2, e_sw3, e_sw4, e_sw5, e_sw6, e_sw7, e_sw8, e_sw9, Option.toList_some, Option.toList_none, List.cons_append, List.nil_append, List.length_cons, List.length_nil, Nat.reduceAdd, Nat.reduceLeDiff, Nat.zero_le, Nat.le_refl, true_and, and_true, WP_eq, Nat.reduceSub, if_true, if_false, Nat.reduceEqDiff, not_false_eq_true, i_10, i_01, Int32.reduceLT, Int32.reduceLE, true_or, or_true, ne_eq, fk_2 hk, fk_8 hk, fk_11 hk, fk_20 hk, fk_29 hk, fr_1_20_0 hr, fk_21 hk, fl_21 hl, en_6, k6_0, k6_1, k6_11, k6_13, k6_14, k6_18, k6_19, k6_22, k6_25, k6_26, k6_29, k6_31, k6_32, k6_35, k6_37, k6_40, k6_41, k6_44, k6_46, k6_47, k6_48, k6_5, k6_51, k6_54, k6_57, k6_6, k6_7, s_aaload, s_aload_n, s_goto, s_icmp_ge, s_icmp_ne, s_iconst, s_iinc, s_iload, s_iload_n, s_istore, s_istore_n, s_return, sg_1_0, sg_1_1, sg_3_2, sp_3_2]
    rw [k6_2, s_minp, if_neg g1]
    simp only [e_lI0, e_lR0, e_st0, e_lI1, e_lR1, e_st1, e_lI2, e_lR2, e_st2, e_lI3, e_lR3, e_st3, e_lI4, e_lR4, e_st4, e_lI5, e_lR5, e_st5, e_lI6, e_lR6, e_st6, e_lI7, e_lR7, e_st7, e_lI8, e_lR8, e_st8, e_swn, e_swc, e_sw0, e_sw1, e_sw2, e_sw3, e_sw4, e_sw5, e_sw6, e_sw7, e_sw8, e_sw9, Option.toList_some, Option.toList_none, List.cons_append, List.nil_append, List.length_cons, List.length_nil, Nat.reduceAdd, Nat.reduceLeDiff, Nat.zero_le, Nat.le_refl, true_and, and_true, WP_eq, Nat.reduceSub, if_true, if_false, Nat.reduceEqDiff, not_false_eq_true, i_10, i_01, Int32.reduceLT, Int32.reduceLE, true_or, or_true, ne_eq, fk_2 hk, fk_8 hk, fk_11 hk, fk_20 hk, fk_29 hk, fr_1_20_0 hr, fk_21 hk, fl_21 hl, en_6, k6_0, k6_1, k6_11, k6_13, k6_14, k6_18, k6_19, k6_22, k6_25, k6_26, k6_29, k6_31, k6_32, k6_35, k6_37, k6_40, k6_41, k6_44, k6_46, k6_47, k6_48, k6_5, k6_51, k6_54, k6_57, k6_6, k6_7, s_aaload, s_aload_n, s_goto, s_icmp_ge, s_icmp_ne, s_iconst, s_iinc, s_iload, s_iload_n, s_istore, s_istore_n, s_return, sg_1_0, sg_1_1, sg_3_2, sp_3_2]
    rw [k6_8, s_maxp, g2]
    simp only [e_lI0, e_lR0, e_st0, e_lI1, e_lR1, e_st1, e_lI2, e_lR2, e_st2, e_lI3, e_lR3, e_st3, e_lI4, e_lR4, e_st4, e_lI5, e_lR5, e_st5, e_lI6, e_lR6, e_st6, e_lI7, e_lR7, e_st7, e_lI8, e_lR8, e_st8, e_swn, e_swc, e_sw0, e_sw1, e_sw2, e_sw3, e_sw4, e_sw5, e_sw6, e_sw7, e_sw8, e_sw9, Option.toList_some, Option.toList_none, List.cons_append, List.nil_append, List.length_cons, List.length_nil, Nat.reduceAdd, Nat.reduceLeDiff, Nat.zero_le, Nat.le_refl, true_and, and_true, WP_eq, Nat.reduceSub, if_true, if_false, Nat.reduceEqDiff, not_false_eq_true, i_10, i_01, Int32.reduceLT, Int32.reduceLE, true_or, or_true, ne_eq, fk_2 hk, fk_8 hk, fk_11 hk, fk_20 hk, fk_29 hk, fr_1_20_0 hr, fk_21 hk, fl_21 hl, en_6, k6_0, k6_1, k6_11, k6_13, k6_14, k6_18, k6_19, k6_22, k6_25, k6_26, k6_29, k6_31, k6_32, k6_35, k6_37, k6_40, k6_41, k6_44, k6_46, k6_47, k6_48, k6_5, k6_51, k6_54, k6_57, k6_6, k6_7, s_aaload, s_aload_n, s_goto, s_icmp_ge, s_icmp_ne, s_iconst, s_iinc, s_iload, s_iload_n, s_istore, s_istore_n, s_return, sg_1_0, sg_1_1, sg_3_2, sp_3_2]
    rw [← WP_eq]
    refine lp_jg hk hl hr hN hN6 hkd hinj hR (by omega) hc N 0 iv (by omega) ⟨hB.1, fun i hi => ?_⟩
    rw [hB.2 i hi]
    unfold jg
    rw [if_neg (by omega)]
set_option maxRecDepth 100000 in
set_option maxHeartbeats 4000000 in
theorem L_leastJoined {d N i : Nat} {n : Nat} {kd ln : Nat → Nat} {iv : Nat → Nat → Nat → Int32} {rv : Nat → Nat → Nat → Nat} {Q : Rt} (hk : FixK kd) (hl : FixL ln) (hr : FixR rv) (hN : iv 1 20 1 = nI N) (hN6 : N ≤ 60) (hi : i < N) (ki : kd (rv 33 21 i) = 3) : MW (d + 2) 3 [.inr 20, .inl (nI i)] ((n, kd, ln), iv, rv) Q = Q (some (.inl (iv 3 (rv 33 21 i) 2))) ((n, kd, ln), iv, rv) := by
  have a1 : ¬ nI i < 0 := nI_pos (by omega)
  have a2 : ¬ nI N ≤ nI i := nI_ge hi (by omega)
  have a3 : vp_in (nI i) 60 := vp_in_nI (by omega) (by decide)
  have a4 : (nI i).toNatClampNeg = i := nI_clamp (by omega)
  have z1 : ¬ rv 33 21 i = 0 := hk.nz ki (by decide)
  simp only [e_lI0, e_lR0, e_st0, e_lI1, e_lR1, e_st1, e_lI2, e_lR2, e_st2, e_lI3, e_lR3, e_st3, e_lI4, e_lR4, e_st4, e_lI5, e_lR5, e_st5, e_lI6, e_lR6, e_st6, e_lI7, e_lR7, e_st7, e_lI8, e_lR8, e_st8, e_swn, e_swc, e_sw0, e_sw1, e_sw2, e_sw3, e_sw4, e_sw5, e_sw6, e_sw7, e_sw8, e_sw9, Option.toList_some, Option.toList_none, List.cons_append, List.nil_append, List.length_cons, List.length_nil, Nat.reduceAdd, Nat.reduceLeDiff, Nat.zero_le, Nat.le_refl, true_and, and_true, WP_eq, Nat.reduceSub, if_true, if_false, Nat.reduceEqDiff, not_false_eq_true, i_10, i_01, Int32.reduceLT, Int32.reduceLE, true_or, or_true, ne_eq, fk_2 hk, fk_8 hk, fk_11 hk, fk_20 hk, fk_29 hk, en_3, c_4, k3_0, k3_1, k3_10, k3_11, k3_14, k3_15, k3_18, k3_2, k3_5, k3_6, k3_7, r_3, s_aload_n, s_astore_n, s_goto, s_iconst, s_ifnonnull, s_iload_n, sg_3_2, L_entryAt hk hl hr, hN, a1, a2, a3, a4, z1, ki]
def JE (E : Nat) (ec em : Fn) (i : Nat) (R : Nat → Nat) : Prop := (∀ k, k < E + 1 → R k ≤ k ∧ Rch (E + 1) ec em k (R k)) ∧ (∀ a b, a < E + 1 → b < E + 1 → ((a < E ∧ b < E) ∨ (a = E ∧ b < i) ∨ (b = E ∧ a < i)) → smE ec em a b → R a = R b)
theorem JE.step {E i : Nat} {ec em : Fn} {R : Nat → Nat} (h : JE E ec em i R) (hi : i < E) (hs : smE ec em i E) : JE E ec em (i + 1) (jg R (min (R i) (R E)) (max (R i) (R E)) (E + 1)) := by
  obtain ⟨h1, h2⟩ := h
  have hf : ∀ a b, a < E + 1 → b < E + 1 → R a = R b → jg R (min (R i) (R E)) (max (R i) (R E)) (E + 1) a = jg R (min (R i) (R E)) (max (R i) (R E)) (E + 1) b := by
    intro a b ha hb e
    unfold jg
    simp only [ha, hb, true_and, e]
  have hn : jg R (min (R i) (R E)) (max (R i) (R E)) (E + 1) i = jg R (min (R i) (R E)) (max (R i) (R E)) (E + 1) E := by
    unfold jg
    simp only [show i < E + 1 by omega, show E < E + 1 by omega, true_and]
    by_cases c1 : R i = max (R i) (R E)
    · rw [if_pos c1]
      by_cases c2 : R E = max (R i) (R E)
      · rw [if_pos c2]
      · rw [if_neg c2]; omega
    · rw [if_neg c1]
      by_cases c2 : R E = max (R i) (R E)
      · rw [if_pos c2]; omega
      · omega
  refine ⟨fun k hk => ?_, fun a b ha hb hab hsm => ?_⟩
  · obtain ⟨q1, q2⟩ := h1 k hk
    unfold jg
    by_cases c : k < E + 1 ∧ R k = max (R i) (R E)
    · rw [if_pos c]
      refine ⟨by omega, fun g hg => ?_⟩
      have e1 := (h1 i (by omega)).2 g hg
      have e2 := (h1 E (by omega)).2 g hg
      have e3 := hg i E (by omega) (by omega) hs
      rw [q2 g hg, c.2]
      rcases Nat.le_total (R i) (R E) with z | z
      · rw [show max (R i) (R E) = R E by omega, show min (R i) (R E) = R i by omega, ← e1, ← e2, e3]
      · rw [show max (R i) (R E) = R i by omega, show min (R i) (R E) = R E by omega, ← e1, ← e2, e3]
    · rw [if_neg c]
      exact ⟨q1, q2⟩
  · by_cases c : a = E ∧ b = i
    · obtain ⟨rfl, rfl⟩ := c
      exact hn.symm
    · by_cases c2 : b = E ∧ a = i
      · obtain ⟨rfl, rfl⟩ := c2
        exact hn
      · exact hf a b ha hb (h2 a b ha hb (by omega) hsm)
set_option maxRecDepth 100000 in
set_option maxHeartbeats 4000000 in
theorem lp_jwe {d E : Nat} {ec em : Fn} {n : Nat} {kd ln : Nat → Nat} {iv0 : Nat → Nat → Nat → Int32} {rv : Nat → Nat → Nat → Nat} {Q : Rt} {bc bs : Nat} (hk : FixK kd) (hl : FixL ln) (hr : FixR rv) (hN : iv0 1 20 1 = nI (E + 1)) (hN6 : E + 1 ≤ 60) (hkd : ∀ i, i < E + 1 → kd (rv 33 21 i) = 3) (hinj : ∀ i j, i < E + 1 → j < E + 1 → rv 33 21 i = rv 33 21 j → i = j) (hec : ∀ i, i < E + 1 → iv0 3 (rv 33 21 i) 0 = ec i ∧ iv0 3 (rv 33 21 i) 1 = em i)
    (hc : ∀ R iv, BR (E + 1) (rv 33 21) iv0 iv R → JE E ec em E R → Q none ((n, kd, ln), iv, rv)) :
    ∀ k i R iv, i + k = E → BR (E + 1) (rv 33 21) iv0 iv R → JE E ec em i R → WPc (MW (d + 2)) 5 Q 2 [some (.inr 20), some (.inl (nI E)), some (.inl (nI i))] [] ((n, kd, ln), iv, rv) bc bs := by
  intro k
  induction k with
  | zero =>
    intro i R iv hi hB hJ
    obtain rfl : i = E := by omega
    rw [WP_eq, k5_2]
    simp only [e_lI0, e_lR0, e_st0, e_lI1, e_lR1, e_st1, e_lI2, e_lR2, e_st2, e_lI3, e_lR3, e_st3, e_lI4, e_lR4, e_st4, e_lI5, e_lR5, e_st5, e_lI6, e_lR6, e_st6, e_lI7, e_lR7, e_st7, e_lI8, e_lR8, e_st8, e_swn, e_swc, e_sw0, e_sw1, e_sw2, e_sw3, e_sw4, e_sw5, e_sw6, e_sw7, e_sw8, e_sw9, Option.toList_some, Option.toList_none, List.cons_append, List.nil_append, List.length_cons, List.length_nil, Nat.reduceAdd, Nat.reduceLeDiff, Nat.zero_le, Nat.le_refl, true_and, and_true, WP_eq, Nat.reduceSub, if_true, if_false, Nat.reduceEqDiff, not_false_eq_true, i_10, i_01, Int32.reduceLT, Int32.reduceLE, true_or, or_true, ne_eq, fk_2 hk, fk_8 hk, fk_11 hk, fk_20 hk, fk_29 hk, en_5, c_2, c_3, c_6, k5_0, k5_1, k5_10, k5_13, k5_14, k5_17, k5_18, k5_19, k5_20, k5_23, k5_24, k5_25, k5_28, k5_3, k5_31, k5_34, k5_37, k5_4, k5_7, k5_8, k5_9, s_aload_n, s_goto, s_icmp_ge, s_icmp_ne, s_iconst, s_iinc, s_iload_n, s_istore_n, s_return, nI_self_le]
    exact hc R iv hB hJ
  | succ k ih =>
    intro i R iv hi hB hJ
    have hiE : i < E := by omega
    have c1 : ¬ nI E ≤ nI i := nI_ge hiE (by omega)
    have hN' : iv 1 20 1 = nI (E + 1) := by rw [hB.1.1 1 (by decide)]; exact hN
    have x1 : iv 3 (rv 33 21 i) 0 = ec i := by rw [hB.1.2 _ _ (by decide)]; exact (hec i (by omega)).1
    have x2 : iv 3 (rv 33 21 i) 1 = em i := by rw [hB.1.2 _ _ (by decide)]; exact (hec i (by omega)).2
    have y1 : iv 3 (rv 33 21 E) 0 = ec E := by rw [hB.1.2 _ _ (by decide)]; exact (hec E (by omega)).1
    have y2 : iv 3 (rv 33 21 E) 1 = em E := by rw [hB.1.2 _ _ (by decide)]; exact (hec E (by omega)).2
    have l1 := hB.2 i (by omega)
    have l2 := hB.2 E (by omega)
    have r1 := (hJ.1 i (by omega)).1
    have r2 := (hJ.1 E (by omega)).1
    rw [WP_eq, k5_2]
    by_cases c3 : (if ec i = ec E then (-1 : Int32) else cmpC 5 (em i) (em E) 0) = 1
    · have hsm : smE ec em i E := by
        by_cases e : ec i = ec E
        · rw [if_pos e] at c3; exact absurd c3 (by decide)
        · rw [if_neg e] at c3; exact ⟨e, c3⟩
      simp only [e_lI0, e_lR0, e_st0, e_lI1, e_lR1, e_st1, e_lI2, e_lR2, e_st2, e_lI3, e_lR3, e_st3, e_lI4, e_lR4, e_st4, e_lI5, e_lR5, e_st5, e_lI6, e_lR6, e_st6, e_lI7, e_lR7, e_st7, e_lI8, e_lR8, e_st8, e_swn, e_swc, e_sw0, e_sw1, e_sw2, e_sw3, e_sw4, e_sw5, e_sw6, e_sw7, e_sw8, e_sw9, Option.toList_some, Option.toList_none, List.cons_append, List.nil_append, List.length_cons, List.length_nil, Nat.reduceAdd, Nat.reduceLeDiff, Nat.zero_le, Nat.le_refl, true_and, and_true, WP_eq, Nat.reduceSub, if_true, if_false, Nat.reduceEqDiff, not_false_eq_true, i_10, i_01, Int32.reduceLT, Int32.reduceLE, true_or, or_true, ne_eq, fk_2 hk, fk_8 hk, fk_11 hk, fk_20 hk, fk_29 hk, en_5, c_2, c_3, c_6, k5_0, k5_1, k5_10, k5_13, k5_14, k5_17, k5_18, k5_19, k5_20, k5_23, k5_24, k5_25, k5_28, k5_3, k5_31, k5_34, k5_37, k5_4, k5_7, k5_8, k5_9, s_aload_n, s_goto, s_icmp_ge, s_icmp_ne, s_iconst, s_iinc, s_iload_n, s_istore_n, s_return, c1, L_like hk hl hr hN' hN6 (show i < E + 1 by omega) (show E < E + 1 by omega) (hkd i (by omega)) (hkd E (by omega)), x1, x2, y1, y2, eq_true c3, L_leastJoined hk hl hr hN' hN6 (show i < E + 1 by omega) (hkd i (by omega)), L_leastJoined hk hl hr hN' hN6 (show E < E + 1 by omega) (hkd E (by omega)), l1, l2]
      refine L_joinGroups (d := d + 1) hk hl hr hN hN6 hkd hinj (fun q hq => by have := (hJ.1 q hq).1; omega) (by omega) (by omega) hB (fun iv' hB' => ?_)
      simp only [e_lI0, e_lR0, e_st0, e_lI1, e_lR1, e_st1, e_lI2, e_lR2, e_st2, e_lI3, e_lR3, e_st3, e_lI4, e_lR4, e_st4, e_lI5, e_lR5, e_st5, e_lI6, e_lR6, e_st6, e_lI7, e_lR7, e_st7, e_lI8, e_lR8, e_st8, e_swn, e_swc, e_sw0, e_sw1, e_sw2, e_sw3, e_sw4, e_sw5, e_sw6, e_sw7, e_sw8, e_sw9, Option.toList_some, Option.toList_none, List.cons_append, List.nil_append, List.length_cons, List.length_nil, Nat.reduceAdd, Nat.reduceLeDiff, Nat.zero_le, Nat.le_refl, true_and, and_true, WP_eq, Nat.reduceSub, if_true, if_false, Nat.reduceEqDiff, not_false_eq_true, i_10, i_01, Int32.reduceLT, Int32.reduceLE, true_or, or_true, ne_eq, fk_2 hk, fk_8 hk, fk_11 hk, fk_20 hk, fk_29 hk, en_5, c_2, c_3, c_6, k5_0, k5_1, k5_10, k5_13, k5_14, k5_17, k5_18, k5_19, k5_20, k5_23, k5_24, k5_25, k5_28, k5_3, k5_31, k5_34, k5_37, k5_4, k5_7, k5_8, k5_9, s_aload_n, s_goto, s_icmp_ge, s_icmp_ne, s_iconst, s_iinc, s_iload_n, s_istore_n, s_return]
      rw [← WP_eq, nI_1]
      exact ih (i + 1) _ iv' (by omega) hB' (hJ.step hiE hsm)
    · simp only [e_lI0, e_lR0, e_st0, e_lI1, e_lR1, e_st1, e_lI2, e_lR2, e_st2, e_lI3, e_lR3, e_st3, e_lI4, e_lR4, e_st4, e_lI5, e_lR5, e_st5, e_lI6, e_lR6, e_st6, e_lI7, e_lR7, e_st7, e_lI8, e_lR8, e_st8, e_swn, e_swc, e_sw0, e_sw1, e_sw2, e_sw3, e_sw4, e_sw5, e_sw6, e_sw7, e_sw8, e_sw9, Option.toList_some, Option.toList_none, List.cons_append, List.nil_append, List.length_cons, List.length_nil, Nat.reduceAdd, Nat.reduceLeDiff, Nat.zero_le, Nat.le_refl, true_and, and_true, WP_eq, Nat.reduceSub, if_true, if_false, Nat.reduceEqDiff, not_false_eq_true, i_10, i_01, Int32.reduceLT, Int32.reduceLE, true_or, or_true, ne_eq, fk_2 hk, fk_8 hk, fk_11 hk, fk_20 hk, fk_29 hk, en_5, c_2, c_3, c_6, k5_0, k5_1, k5_10, k5_13, k5_14, k5_17, k5_18, k5_19, k5_20, k5_23, k5_24, k5_25, k5_28, k5_3, k5_31, k5_34, k5_37, k5_4, k5_7, k5_8, k5_9, s_aload_n, s_goto, s_icmp_ge, s_icmp_ne, s_iconst, s_iinc, s_iload_n, s_istore_n, s_return, c1, L_like hk hl hr hN' hN6 (show i < E + 1 by omega) (show E < E + 1 by omega) (hkd i (by omega)) (hkd E (by omega)), x1, x2, y1, y2, eq_false c3]
      rw [← WP_eq, nI_1]
      refine ih (i + 1) R iv (by omega) hB ⟨hJ.1, fun a b ha hb hab hsm => ?_⟩
      by_cases c : a = i ∧ b = E
      · obtain ⟨rfl, rfl⟩ := c
        exact absurd (by rw [if_neg hsm.1]; exact hsm.2) c3
      · by_cases c2 : a = E ∧ b = i
        · obtain ⟨rfl, rfl⟩ := c2
          have hsm := smE_comm hsm
          exact absurd (by rw [if_neg hsm.1]; exact hsm.2) c3
        · exact hJ.2 a b ha hb (by omega) hsm
