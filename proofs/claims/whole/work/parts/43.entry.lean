def BF (iv0 iv : Nat → Nat → Nat → Int32) : Prop := (∀ K, K ≠ 3 → iv K = iv0 K) ∧ (∀ a j, j ≠ 2 → iv 3 a j = iv0 3 a j)
def BR (N : Nat) (ea : Nat → Nat) (iv0 iv : Nat → Nat → Nat → Int32) (R : Nat → Nat) : Prop := BF iv0 iv ∧ ∀ i, i < N → iv 3 (ea i) 2 = nI (R i)
def jg (R : Nat → Nat) (lo hi t : Nat) : Nat → Nat := fun k => if k < t ∧ R k = hi then lo else R k
theorem BF.put {iv0 iv : Nat → Nat → Nat → Int32} (h : BF iv0 iv) {a : Nat} {v : Int32} : BF iv0 (u3 iv 3 a 2 v) := ⟨fun K hK => by rw [u3_c hK]; exact h.1 K hK, fun b j hj => by rw [u3_j hj]; exact h.2 b j hj⟩
set_option maxRecDepth 100000 in
set_option maxHeartbeats 4000000 in
theorem lp_jg {d N lo hi : Nat} {R : Nat → Nat} {a b : Int32} {n : Nat} {kd ln : Nat → Nat} {iv0 : Nat → Nat → Nat → Int32} {rv : Nat → Nat → Nat → Nat} {Q : Rt} {bc bs : Nat} (hk : FixK kd) (hl : FixL ln) (hr : FixR rv) (hN : iv0 1 20 1 = nI N) (hN6 : N ≤ 60) (hkd : ∀ i, i < N → kd (rv 33 21 i) = 3) (hinj : ∀ i j, i < N → j < N → rv 33 21 i = rv 33 21 j → i = j) (hR : ∀ i, i < N → R i < 60) (hhi : hi < 60)
    (hc : ∀ iv, BR N (rv 33 21) iv0 iv (jg R lo hi N) → Q none ((n, kd, ln), iv, rv)) :
    ∀ k t iv, t + k = N → BR N (rv 33 21) iv0 iv (jg R lo hi t) → WPc (MW d) 6 Q 16 [some (.inr 20), some (.inl a), some (.inl b), some (.inl (nI lo)), some (.inl (nI hi)), some (.inl (nI t))] [] ((n, kd, ln), iv, rv) bc bs := by
  intro k
  induction k with
  | zero =>
    intro t iv ht hB
    obtain rfl : t = N := by omega
    have hN' : iv 1 20 1 = nI t := by rw [hB.1.1 1 (by decide)]; exact hN
    rw [WP_eq, k6_16]
    simp only [e_lI0, e_lR0, e_st0, e_lI1, e_lR1, e_st1, e_lI2, e_lR2, e_st2, e_lI3, e_lR3, e_st3, e_lI4, e_lR4, e_st4, e_lI5, e_lR5, e_st5, e_lI6, e_lR6, e_st6, e_lI7, e_lR7, e_st7, e_lI8, e_lR8, e_st8, e_swn, e_swc, e_sw0, e_sw1, e_sw2, e_sw3, e_sw4, e_sw5, e_sw6, e_sw7, e_sw8, e_sw9, Option.toList_some, Option.toList_none, List.cons_append, List.nil_append, List.length_cons, List.length_nil, Nat.reduceAdd, Nat.reduceLeDiff, Nat.zero_le, Nat.le_refl, true_and, and_true, WP_eq, Nat.reduceSub, if_true, if_false, Nat.reduceEqDiff, not_false_eq_true, i_10, i_01, Int32.reduceLT, Int32.reduceLE, true_or, or_true, ne_eq, fk_2 hk, fk_8 hk, fk_11 hk, fk_20 hk, fk_29 hk, fr_1_20_0 hr, fk_21 hk, fl_21 hl, en_6, k6_0, k6_1, k6_11, k6_13, k6_14, k6_18, k6_19, k6_22, k6_25, k6_26, k6_29, k6_31, k6_32, k6_35, k6_37, k6_40, k6_41, k6_44, k6_46, k6_47, k6_48, k6_5, k6_51, k6_54, k6_57, k6_6, k6_7, s_aaload, s_aload_n, s_goto, s_icmp_ge, s_icmp_ne, s_iconst, s_iinc, s_iload, s_iload_n, s_istore, s_istore_n, s_return, sg_1_0, sg_1_1, sg_3_2, sp_3_2, hN', nI_self_le]
    exact hc iv hB
  | succ k ih =>
    intro t iv ht hB
    have htN : t < N := by omega
    have hN' : iv 1 20 1 = nI N := by rw [hB.1.1 1 (by decide)]; exact hN
    have c1 : ¬ nI N ≤ nI t := nI_ge htN (by omega)
    have b3 : vp_in (nI t) 60 := vp_in_nI (by omega) (by decide)
    have b4 : (nI t).toNatClampNeg = t := nI_clamp (by omega)
    have kt := hkd t htN
    have lt : iv 3 (rv 33 21 t) 2 = nI (R t) := by
      rw [hB.2 t htN]
      unfold jg
      rw [if_neg (by omega)]
    rw [WP_eq, k6_16]
    by_cases e : R t = hi
    · have e' : nI (R t) = nI hi := by rw [e]
      simp only [e_lI0, e_lR0, e_st0, e_lI1, e_lR1, e_st1, e_lI2, e_lR2, e_st2, e_lI3, e_lR3, e_st3, e_lI4, e_lR4, e_st4, e_lI5, e_lR5, e_st5, e_lI6, e_lR6, e_st6, e_lI7, e_lR7, e_st7, e_lI8, e_lR8, e_st8, e_swn, e_swc, e_sw0, e_sw1, e_sw2, e_sw3, e_sw4, e_sw5, e_sw6, e_sw7, e_sw8, e_sw9, Option.toList_some, Option.toList_none, List.cons_append, List.nil_append, List.length_cons, List.length_nil, Nat.reduceAdd, Nat.reduceLeDiff, Nat.zero_le, Nat.le_refl, true_and, and_true, WP_eq, Nat.reduceSub, if_true, if_false, Nat.reduceEqDiff, not_false_eq_true, i_10, i_01, Int32.reduceLT, Int32.reduceLE, true_or, or_true, ne_eq, fk_2 hk, fk_8 hk, fk_11 hk, fk_20 hk, fk_29 hk, fr_1_20_0 hr, fk_21 hk, fl_21 hl, en_6, k6_0, k6_1, k6_11, k6_13, k6_14, k6_18, k6_19, k6_22, k6_25, k6_26, k6_29, k6_31, k6_32, k6_35, k6_37, k6_40, k6_41, k6_44, k6_46, k6_47, k6_48, k6_5, k6_51, k6_54, k6_57, k6_6, k6_7, s_aaload, s_aload_n, s_goto, s_icmp_ge, s_icmp_ne, s_iconst, s_iinc, s_iload, s_iload_n, s_istore, s_istore_n, s_return, sg_1_0, sg_1_1, sg_3_2, sp_3_2, hN', c1, b3, b4, kt, lt, eq_true e']
      rw [← WP_eq, nI_1]
      refine ih (t + 1) _ (by omega) ⟨hB.1.put, fun i hi' => ?_⟩
      by_cases q : i = t
      · subst q
        rw [u3_s]
        unfold jg
        rw [if_pos ⟨by omega, e⟩]
      · rw [u3_a (fun z => q (hinj i t hi' htN z)), hB.2 i hi']
        unfold jg
        simp only [show (i < t + 1) = (i < t) from propext (by omega)]
    · have e' : ¬ nI (R t) = nI hi := fun z => e ((nI_eq (by have := hR t htN; omega) (by omega)).mp z)
      simp only [e_lI0, e_lR0, e_st0, e_lI1, e_lR1, e_st1, e_lI2, e_lR2, e_st2, e_lI3, e_lR3, e_st3, e_lI4, e_lR4, e_st4, e_lI5, e_lR5, e_st5, e_lI6, e_lR6, e_st6, e_lI7, e_lR7, e_st7, e_lI8, e_lR8, e_st8, e_swn, e_swc, e_sw0, e_sw1, e_sw2, e_sw3, e_sw4, e_sw5, e_sw6, e_sw7, e_sw8, e_sw9, Option.toList_some, Option.toList_none, List.cons_append, List.nil_append, List.length_cons, List.length_nil, Nat.reduceAdd, Nat.reduceLeDiff, Nat.zero_le, Nat.le_refl, true_and, and_true, WP_eq, Nat.reduceSub, if_true, if_false, Nat.reduceEqDiff, not_false_eq_true, i_10, i_01, Int32.reduceLT, Int32.reduceLE, true_or, or_true, ne_eq, fk_2 hk, fk_8 hk, fk_11 hk, fk_20 hk, fk_29 hk, fr_1_20_0 hr, fk_21 hk, fl_21 hl, en_6, k6_0, k6_1, k6_11, k6_13, k6_14, k6_18, k6_19, k6_22, k6_25, k6_26, k6_29, k6_31, k6_32, k6_35, k6_37, k6_40, k6_41, k6_44, k6_46, k6_47, k6_48, k6_5, k6_51, k6_54, k6_57, k6_6, k6_7, s_aaload, s_aload_n, s_goto, s_icmp_ge, s_icmp_ne, s_iconst, s_iinc, s_iload, s_iload_n, s_istore, s_istore_n, s_return, sg_1_0, sg_1_1, sg_3_2, sp_3_2, hN', c1, b3, b4, kt, lt, eq_false e']
      rw [← WP_eq, nI_1]
      refine ih (t + 1) _ (by omega) ⟨hB.1, fun i hi' => ?_⟩
      rw [hB.2 i hi']
      unfold jg
      by_cases q : i = t
      · subst q
        simp only [e, and_false]
      · simp only [show (i < t + 1) = (i < t) from propext (by omega)]
