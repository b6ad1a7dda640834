def POk (C Hn : Nat) (st0 go0 : Fn) (s : PS) : Prop :=
  (∀ c, c < C → (s.1 c = 2 ↔ st0 c = 2) ∧ (s.1 c = 0 ∨ s.1 c = 1 ∨ s.1 c = 2 ∨ s.1 c = 3) ∧ (s.1 c = 1 → ∃ k : Nat, k < Hn ∧ s.2.1 c = nI k)) ∧ (∀ c, C ≤ c → s.1 c = st0 c) ∧ (∀ i, Hn ≤ i → s.2.2 i = go0 i)
theorem pool_ok {C Hn : Nat} {st0 go0 due : Fn} : ∀ k c s, c + k ≤ C → POk C Hn st0 go0 s → POk C Hn st0 go0 (pool due Hn k c s)
  | 0, c, s, _, h => h
  | k + 1, c, s, hc, h => by
    unfold pool
    by_cases c1 : s.1 c = 0
    · rw [if_pos c1]
      cases hb : bst due s.2.2 Hn with
      | none => exact h
      | some x =>
        have hx := bst_lt Hn x hb
        refine pool_ok k (c + 1) _ (by omega) ⟨fun i hi => ?_, fun i hi => ?_, fun i hi => ?_⟩
        · by_cases e : i = c
          · subst e
            simp only [up_s]
            obtain ⟨a1, -, -⟩ := h.1 i hi
            rw [c1] at a1
            exact ⟨⟨fun z => absurd z (by decide), fun z => absurd (a1.mpr z) (by decide)⟩, Or.inr (Or.inl trivial), fun _ => ⟨x, hx, rfl⟩⟩
          · simp only [up_n e]
            exact h.1 i hi
        · show va_up s.1 c 1 i = st0 i
          rw [up_n (by omega)]
          exact h.2.1 i hi
        · show va_up s.2.2 x (s.2.2 x + 1) i = go0 i
          rw [up_n (by omega)]
          exact h.2.2 i hi
    · rw [if_neg c1]
      exact pool_ok k (c + 1) s (by omega) h
theorem wks_ok {C Hn P : Nat} {st0 go0 : Fn} {iv : Nat → Nat → Nat → Int32} : ∀ k T s q fr, T ≤ 1040 → POk C Hn st0 go0 s → (wks (wkP iv C Hn P) k T s q fr).1 ≤ 1040 ∧ POk C Hn st0 go0 (wks (wkP iv C Hn P) k T s q fr).2.1
  | 0, T, s, q, fr, hT, h => ⟨hT, h⟩
  | k + 1, T, s, q, fr, hT, h => by
    unfold wks
    by_cases c : T < 1040
    · rw [if_pos c]
      refine wks_ok k (T + 1) _ _ _ (by omega) ?_
      unfold wkP
      by_cases c4 : rmd (nI T) 4 = 3
      · rw [if_pos c4]; exact pool_ok C 0 s (by omega) h
      · rw [if_neg c4]; exact h
    · rw [if_neg c]
      exact ⟨hT, h⟩
set_option maxRecDepth 100000 in
set_option maxHeartbeats 4000000 in
theorem op_go {d : Nat} {x : Int32} {L : Nat} {xs : Fn} {n : Nat} {kd ln : Nat → Nat} {iv : Nat → Nat → Nat → Int32} {rv : Nat → Nat → Nat → Nat} {S C Hn V E P T : Nat} {lst : Nat → Nat} (hI : Inv L xs n kd ln iv rv S C Hn V E P T lst) : Both (d + 15) 49 102 [.inl x] L xs ((n, kd, ln), iv, rv) := by
  obtain ⟨⟨hk, hl, hr, hn, hkn, hL, hX⟩, hS, h1, h2, h3, h4, h5, h6, h7⟩ := id hI
  obtain ⟨z1, z2, z3, z4, z5, z6, z7, z8, z9, z10, z11, z12, z13, z14, z15, z16, z17, z18⟩ := id hS
  unfold Both
  have sm : InvH L xs ((n, kd, ln), iv, rv) := ⟨S, C, Hn, V, E, P, T, lst, hI⟩
  by_cases c1 : 0 ≤ x
  · by_cases c2 : x ≤ 60
    · obtain ⟨m, hm31, rfl⟩ := nI_of (Int32.not_lt.mpr c1)
      have hm : m ≤ 60 := (nI_leI (a := m) (b := 60) hm31 (by decide)).mp c2
      have hG : GF C Hn P n kd ln iv rv := ⟨z3, z5, z13, h2.1, h2.2.1, h2.2.2.1, ⟨_, _, _, _, _, h3⟩, ⟨_, _, _, _, h4⟩⟩
      have hW : CW C Hn rv iv iv (iv 20 32, iv 20 34, iv 20 43) (iv 20 49, iv 20 50) (nI T) (iv 12 29 32) := by
        refine ⟨⟨fun _ _ _ _ _ _ => rfl, fun _ _ => rfl⟩, ⟨fun _ _ _ _ => rfl, fun i hi => ?_⟩, ⟨fun _ _ _ => rfl, fun i hi => ?_⟩, ⟨fun _ _ _ _ => rfl, fun w hw => ?_⟩, fun _ _ _ => rfl, z9, z12⟩
        · obtain ⟨-, e1, e2, -⟩ := h2.2.2.2.1 i hi
          exact ⟨e1, e2⟩
        · obtain ⟨-, -, -, -, -, -, e1, -⟩ := h3.2.2.2.1 i hi
          exact e1
        · obtain ⟨-, e1, e2, -⟩ := h5 w hw
          exact ⟨e1, e2⟩
      simp only [c1, c2, e_lI0, e_lR0, e_st0, e_lI1, e_lR1, e_st1, e_lI2, e_lR2, e_st2, e_lI3, e_lR3, e_st3, e_lI4, e_lR4, e_st4, e_lI5, e_lR5, e_st5, e_lI6, e_lR6, e_st6, e_lI7, e_lR7, e_st7, e_lI8, e_lR8, e_st8, e_swn, e_swc, e_sw0, e_sw1, e_sw2, e_sw3, e_sw4, e_sw5, e_sw6, e_sw7, e_sw8, e_sw9, Option.toList_some, Option.toList_none, List.cons_append, List.nil_append, List.length_cons, List.length_nil, Nat.reduceAdd, Nat.reduceLeDiff, Nat.zero_le, Nat.le_refl, true_and, and_true, WP_eq, Nat.reduceSub, if_true, if_false, Nat.reduceEqDiff, not_false_eq_true, i_10, i_01, Int32.reduceLT, Int32.reduceLE, true_or, or_true, ne_eq, fk_2 hk, fk_8 hk, fk_11 hk, fk_20 hk, fk_29 hk, en_49, c_74, k49_0, k49_1, k49_10, k49_11, k49_12, k49_13, k49_15, k49_16, k49_19, k49_20, k49_23, k49_26, k49_29, k49_30, k49_33, k49_36, k49_39, k49_4, k49_40, k49_43, k49_5, k49_7, r_49, s_aload_n, s_bipush, s_goto, s_icmp_ge, s_icmp_le, s_iconst, s_if_lt, s_iinc, s_iload_n, s_istore_n, s_sipush, sg_11_13, some_e, exists_eq_left', igt, ite_not, not_true_eq_false, le5, le99]
      rw [← WP_eq]
      refine lp_goC (d := d + 10) hm hk hl hr hG m 0 T _ _ _ iv (by omega) z11 hW (fun ivc T' s' q' fr' he hC => ?_)
      obtain ⟨⟨w1, w2⟩, ⟨w3, w4⟩, ⟨w5, w6⟩, ⟨w7, w8⟩, w9, w10, w11⟩ := id hC
      have v20 : ivc 20 = iv 20 := w1 20 (by decide) (by decide) (by decide) (by decide) (by decide)
      have v12 : ivc 12 = iv 12 := w1 12 (by decide) (by decide) (by decide) (by decide) (by decide)
      have hGM : GM C Hn P ivc := by
        unfold GM
        rw [v20, v12]
        exact ⟨z4, h3.1, z6, h2.1, z14, h4.1, fun i hi => (h3.2.2.2.2.1 i hi).2.2⟩
      have hM : MR ivc ivc (iv 20 32, iv 20 34, iv 20 43) (iv 20 49, iv 20 50) (nI T) (iv 12 29 32) := by
        refine ⟨fun _ _ _ => rfl, fun _ _ _ _ _ _ => rfl, ?_, ?_, fun _ _ _ => rfl, ?_, ?_⟩
        · rw [v20]; exact ⟨rfl, rfl, rfl⟩
        · rw [v20]; exact ⟨rfl, rfl⟩
        · rw [v12]; exact z10
        · rw [v12]
      have hwk : wkP ivc C Hn P = wkP iv C Hn P := by
        funext T s
        unfold wkP dueW
        rw [v20]
      refine ⟨_, rfl, ?_⟩
      simp only [c1, c2, e_lI0, e_lR0, e_st0, e_lI1, e_lR1, e_st1, e_lI2, e_lR2, e_st2, e_lI3, e_lR3, e_st3, e_lI4, e_lR4, e_st4, e_lI5, e_lR5, e_st5, e_lI6, e_lR6, e_st6, e_lI7, e_lR7, e_st7, e_lI8, e_lR8, e_st8, e_swn, e_swc, e_sw0, e_sw1, e_sw2, e_sw3, e_sw4, e_sw5, e_sw6, e_sw7, e_sw8, e_sw9, Option.toList_some, Option.toList_none, List.cons_append, List.nil_append, List.length_cons, List.length_nil, Nat.reduceAdd, Nat.reduceLeDiff, Nat.zero_le, Nat.le_refl, true_and, and_true, WP_eq, Nat.reduceSub, if_true, if_false, Nat.reduceEqDiff, not_false_eq_true, i_10, i_01, Int32.reduceLT, Int32.reduceLE, true_or, or_true, ne_eq, fk_2 hk, fk_8 hk, fk_11 hk, fk_20 hk, fk_29 hk, fr_12_29_30 hr, fk_50 hk, fl_50 hl, fr_12_29_29 hr, fk_49 hk, fl_49 hl, en_102, c_103, c_79, k102_0, k102_1, k102_10, k102_100, k102_101, k102_104, k102_11, k102_12, k102_13, k102_15, k102_16, k102_19, k102_2, k102_20, k102_23, k102_26, k102_29, k102_30, k102_32, k102_34, k102_37, k102_38, k102_4, k102_41, k102_42, k102_43, k102_44, k102_45, k102_48, k102_49, k102_50, k102_51, k102_52, k102_53, k102_56, k102_57, k102_58, k102_59, k102_62, k102_66, k102_69, k102_7, k102_70, k102_71, k102_72, k102_75, k102_76, k102_79, k102_80, k102_81, k102_84, k102_85, k102_86, k102_89, k102_90, k102_91, k102_94, k102_97, r_102, s_aload_n, s_bipush, s_dup, s_dup2, s_goto, s_iadd, s_iaload20, s_iastore, s_icmp_ge, s_icmp_ne, s_iconst, s_if_ne, s_iinc, s_iload_n, s_irem, s_istore_n, s_sipush, sg_12_0, sg_12_29, sg_12_30, sp_12_0, sp_12_32, L_in, some_e, exists_eq_left', igt, ite_not, not_true_eq_false, le5, le99]
      rw [← WP_eq]
      refine lp_goM (d := d + 10) hm hk hl hr hGM m 0 T _ _ _ ivc _ (by omega) z11 hM (fun ivm T2 s2 q2 fr2 he2 hR => ?_)
      rw [hwk, he] at he2
      cases he2
      obtain ⟨m1, m2, ⟨m3, m4, m5⟩, ⟨m6, m7⟩, m8, m9, m10⟩ := id hR
      have hok0 : POk C Hn (iv 20 32) (iv 20 43) (iv 20 32, iv 20 34, iv 20 43) := by
        refine ⟨fun c hc => ⟨Iff.rfl, (h2.2.2.2.2.1 c hc).2.1, (h2.2.2.2.2.1 c hc).2.2.1⟩, fun _ _ => rfl, fun _ _ => rfl⟩
      have hok := wks_ok (P := P) (iv := iv) m T _ (iv 20 49, iv 20 50) (iv 12 29 32) z11 hok0
      rw [he] at hok
      obtain ⟨hT', o1, o2, o3⟩ := hok
      refine ⟨rfl, S, C, Hn, V, E, P, T', lst, ?_⟩
      have kA : ∀ a, a ≠ 32 → a ≠ 34 → a ≠ 43 → a ≠ 49 → a ≠ 50 → ivm 20 a = iv 20 a := fun a a1 a2 a3 a4 a5 => by rw [m2 a a1 a2 a3 a4 a5, v20]
      have kK : ∀ K, K ≠ 20 → K ≠ 12 → K ≠ 2 → K ≠ 4 → K ≠ 5 → K ≠ 11 → K ≠ 21 → ivm K = iv K := fun K k1 k2 k3 k4 k5 k6 k7 => by rw [m1 K k1 k2, w1 K k3 k4 k5 k6 k7]
      have k21 : ivm 21 31 = iv 21 31 := by rw [m1 21 (by decide) (by decide), w2 31 (by decide)]
      have k12 : ∀ j, j ≠ 0 → j ≠ 32 → ivm 12 29 j = iv 12 29 j := fun j j1 j2 => by rw [m8 j j1 j2, v12]
      have k11 : ∀ j, j ≠ 13 → j ≠ 14 → ivm 11 2 j = iv 11 2 j := fun j j1 j2 => by rw [m1 11 (by decide) (by decide), w9 j j1 j2]
      have k1113 : ivm 11 2 13 = nI T' := by rw [m1 11 (by decide) (by decide), w10]
      have k1114 : ivm 11 2 14 = fr' := by rw [m1 11 (by decide) (by decide), w11]
      unfold Inv Scal
      dsimp only
      simp (disch := decide) only [kA, kK, k21, k12, k11, k1113, k1114, m3, m4, m5, m6, m7, m9, m10]
      refine ⟨⟨hk, hl, hr, hn, hkn, hL, hX⟩, ⟨z1, z2, z3, z4, z5, z6, z7, z8, trivial, trivial, hT', trivial, z13, z14, z15, z16, z17, z18⟩, h1.st (fun c hc => (o1 c hc).1), ?_, ?_, h4, ?_, h6, h7⟩
      · rw [m1 2 (by decide) (by decide)]
        refine ⟨h2.1, h2.2.1, h2.2.2.1, fun i hi => ?_, fun i hi => ?_, fun i hi => ?_⟩
        · obtain ⟨f0, f1, f2, f3, f4, f5⟩ := h2.2.2.2.1 i hi
          obtain ⟨g1, g2⟩ := w4 i hi
          rw [w3 _ 0 (by decide) (by decide), w3 _ 3 (by decide) (by decide), w3 _ 4 (by decide) (by decide), w3 _ 5 (by decide) (by decide)]
          exact ⟨f0, g1, g2, f3, f4, f5⟩
        · obtain ⟨a1, a2, a3, a4⟩ := h2.2.2.2.2.1 i hi
          obtain ⟨b1, b2, b3⟩ := o1 i hi
          exact ⟨a1, b2, b3, fun z => a4 (fun q => z (b1.mpr q))⟩
        · obtain ⟨a1, a2, a3⟩ := h2.2.2.2.2.2 i hi
          exact ⟨(o2 i hi).trans a1, a2, a3⟩
      · rw [m1 4 (by decide) (by decide)]
        refine ⟨h3.1, h3.2.1, h3.2.2.1, fun i hi => ?_, h3.2.2.2.2.1, fun i hi => ?_⟩
        · obtain ⟨f0, f1, f2, f3, f4, f5, f6, f7, f8⟩ := h3.2.2.2.1 i hi
          rw [w5 _ 0 (by decide), w5 _ 1 (by decide), w5 _ 2 (by decide), w5 _ 3 (by decide), w5 _ 4 (by decide), w5 _ 5 (by decide), w5 _ 7 (by decide), w5 _ 8 (by decide)]
          exact ⟨f0, f1, f2, f3, f4, f5, w6 i hi, f7, f8⟩
        · obtain ⟨a1, a2⟩ := h3.2.2.2.2.2 i hi
          exact ⟨(o3 i hi).trans a1, a2⟩
      · intro w hw
        obtain ⟨a1, a2, a3, a4⟩ := h5 w hw
        obtain ⟨b1, b2⟩ := w8 w hw
        rw [m1 5 (by decide) (by decide), w7 _ 0 (by decide) (by decide), w7 _ 3 (by decide) (by decide)]
        exact ⟨a1, b1, b2, a4⟩
    · simp only [c1, c2, sm, e_lI0, e_lR0, e_st0, e_lI1, e_lR1, e_st1, e_lI2, e_lR2, e_st2, e_lI3, e_lR3, e_st3, e_lI4, e_lR4, e_st4, e_lI5, e_lR5, e_st5, e_lI6, e_lR6, e_st6, e_lI7, e_lR7, e_st7, e_lI8, e_lR8, e_st8, e_swn, e_swc, e_sw0, e_sw1, e_sw2, e_sw3, e_sw4, e_sw5, e_sw6, e_sw7, e_sw8, e_sw9, Option.toList_some, Option.toList_none, List.cons_append, List.nil_append, List.length_cons, List.length_nil, Nat.reduceAdd, Nat.reduceLeDiff, Nat.zero_le, Nat.le_refl, true_and, and_true, WP_eq, Nat.reduceSub, if_true, if_false, Nat.reduceEqDiff, not_false_eq_true, i_10, i_01, Int32.reduceLT, Int32.reduceLE, true_or, or_true, ne_eq, fk_2 hk, fk_8 hk, fk_11 hk, fk_20 hk, fk_29 hk, fr_12_29_30 hr, fk_50 hk, fl_50 hl, fr_12_29_29 hr, fk_49 hk, fl_49 hl, en_49, c_74, k49_0, k49_1, k49_10, k49_11, k49_12, k49_13, k49_15, k49_16, k49_19, k49_20, k49_23, k49_26, k49_29, k49_30, k49_33, k49_36, k49_39, k49_4, k49_40, k49_43, k49_5, k49_7, r_49, s_aload_n, s_bipush, s_goto, s_icmp_ge, s_icmp_le, s_iconst, s_if_lt, s_iinc, s_iload_n, s_istore_n, s_sipush, sg_11_13, en_102, c_103, c_79, k102_0, k102_1, k102_10, k102_100, k102_101, k102_104, k102_11, k102_12, k102_13, k102_15, k102_16, k102_19, k102_2, k102_20, k102_23, k102_26, k102_29, k102_30, k102_32, k102_34, k102_37, k102_38, k102_4, k102_41, k102_42, k102_43, k102_44, k102_45, k102_48, k102_49, k102_50, k102_51, k102_52, k102_53, k102_56, k102_57, k102_58, k102_59, k102_62, k102_66, k102_69, k102_7, k102_70, k102_71, k102_72, k102_75, k102_76, k102_79, k102_80, k102_81, k102_84, k102_85, k102_86, k102_89, k102_90, k102_91, k102_94, k102_97, r_102, s_dup, s_dup2, s_iadd, s_iaload20, s_iastore, s_icmp_ne, s_if_ne, s_irem, sg_12_0, sg_12_29, sg_12_30, sp_12_0, sp_12_32, L_in, some_e, exists_eq_left', igt, ite_not, not_true_eq_false, le5, le99]
  · simp only [c1, sm, e_lI0, e_lR0, e_st0, e_lI1, e_lR1, e_st1, e_lI2, e_lR2, e_st2, e_lI3, e_lR3, e_st3, e_lI4, e_lR4, e_st4, e_lI5, e_lR5, e_st5, e_lI6, e_lR6, e_st6, e_lI7, e_lR7, e_st7, e_lI8, e_lR8, e_st8, e_swn, e_swc, e_sw0, e_sw1, e_sw2, e_sw3, e_sw4, e_sw5, e_sw6, e_sw7, e_sw8, e_sw9, Option.toList_some, Option.toList_none, List.cons_append, List.nil_append, List.length_cons, List.length_nil, Nat.reduceAdd, Nat.reduceLeDiff, Nat.zero_le, Nat.le_refl, true_and, and_true, WP_eq, Nat.reduceSub, if_true, if_false, Nat.reduceEqDiff, not_false_eq_true, i_10, i_01, Int32.reduceLT, Int32.reduceLE, true_or, or_true, ne_eq, fk_2 hk, fk_8 hk, fk_11 hk, fk_20 hk, fk_29 hk, fr_12_29_30 hr, fk_50 hk, fl_50 hl, fr_12_29_29 hr, fk_49 hk, fl_49 hl, en_49, c_74, k49_0, k49_1, k49_10, k49_11, k49_12, k49_13, k49_15, k49_16, k49_19, k49_20, k49_23, k49_26, k49_29, k49_30, k49_33, k49_36, k49_39, k49_4, k49_40, k49_43, k49_5, k49_7, r_49, s_aload_n, s_bipush, s_goto, s_icmp_ge, s_icmp_le, s_iconst, s_if_lt, s_iinc, s_iload_n, s_istore_n, s_sipush, sg_11_13, en_102, c_103, c_79, k102_0, k102_1, k102_10, k102_100, k102_101, k102_104, k102_11, k102_12, k102_13, k102_15, k102_16, k102_19, k102_2, k102_20, k102_23, k102_26, k102_29, k102_30, k102_32, k102_34, k102_37, k102_38, k102_4, k102_41, k102_42, k102_43, k102_44, k102_45, k102_48, k102_49, k102_50, k102_51, k102_52, k102_53, k102_56, k102_57, k102_58, k102_59, k102_62, k102_66, k102_69, k102_7, k102_70, k102_71, k102_72, k102_75, k102_76, k102_79, k102_80, k102_81, k102_84, k102_85, k102_86, k102_89, k102_90, k102_91, k102_94, k102_97, r_102, s_dup, s_dup2, s_iadd, s_iaload20, s_iastore, s_icmp_ne, s_if_ne, s_irem, sg_12_0, sg_12_29, sg_12_30, sp_12_0, sp_12_32, L_in, some_e, exists_eq_left', igt, ite_not, not_true_eq_false, le5, le99]
