/-! the class's search -/
def VN (V : Nat) (vw : Fn) (w : Int32) (M : Nat) (vn : Nat → Nat) : Prop := (∀ i, i < M → vn i < V ∧ vw (vn i) = w) ∧ (∀ i j, i < j → j < M → vn i < vn j) ∧ (∀ v, v < V → vw v = w → ∃ i, i < M ∧ v = vn i)
def TF (iv0 iv : Nat → Nat → Nat → Int32) : Prop := (∀ K, K ≠ 6 → K ≠ 20 → iv K = iv0 K) ∧ (∀ a, a ≠ 14 → a ≠ 15 → a ≠ 19 → iv 20 a = iv0 20 a) ∧ (∀ j, j ≠ 10 → iv 6 11 j = iv0 6 11 j)
def TS (V : Nat) (vw : Fn) (w : Int32) (many : Nat → Nat) (cost : Nat → Nat → Nat) (u N M : Nat) (vn : Nat → Nat) (iv0 iv : Nat → Nat → Nat → Int32) (a p K : Nat) : Prop :=
  TF iv0 iv ∧ (∀ i, i < M → iv 20 19 i = nI (many (vn i) - cN (V + 1) a p (vn i) a)) ∧ (∀ k, k < a → iv 20 14 k = enc V (dgg (V + 1) a p k)) ∧ ∃ bs, iv 6 11 10 = nI bs ∧ BI V vw w many cost u N (iv 20 15) bs K
def SF (V : Nat) (vw : Fn) (w : Int32) (many : Nat → Nat) (hp vp : Nat → Nat) (u N M : Nat) (vn : Nat → Nat) (iv0 : Nat → Nat → Nat → Int32) : Prop :=
  (iv0 6 11 8 = nI N ∧ iv0 6 11 9 = nI M ∧ N ≤ 6 ∧ M ≤ 4 ∧ V ≤ 4 ∧ u ≤ 6) ∧ VN V vw w M vn ∧ (∀ v, v < V → many v ≤ 8) ∧ (∀ i, i < M → iv0 20 17 i = nI (vn i) ∧ iv0 20 18 i = nI (vp (vn i))) ∧ (∀ v, v < V → vp v < 100) ∧ (∀ k, k < N → iv0 20 13 k = nI (hp k) ∧ hp k < 100) ∧ (∀ a, a ≤ N → iv0 20 16 a = nI (lfv (fun k v => dst (hp k) (vp v)) vn M u N a))
def bd (vn : Nat → Nat) : Nat → Nat
  | 0 => 0
  | i + 1 => vn i + 1
theorem VN.gap {V : Nat} {vw : Fn} {w : Int32} {M : Nat} {vn : Nat → Nat} (h : VN V vw w M vn) {i v : Nat} (hi : i ≤ M) (h1 : bd vn i ≤ v) (h2 : v < V) (h3 : i < M → v < vn i) : ¬ vw v = w := by
  intro z
  obtain ⟨j, j1, rfl⟩ := h.2.2 v h2 z
  rcases Nat.lt_or_ge j i with q | q
  · cases i with
    | zero => omega
    | succ i =>
      rw [show bd vn (i + 1) = vn i + 1 from rfl] at h1
      by_cases e : j = i
      · rw [e] at h1; omega
      · have := h.2.1 j i (by omega) (by omega)
        omega
  · have := h3 (by omega)
    by_cases e : j = i
    · rw [e] at this; omega
    · have := h.2.1 i j (by omega) j1
      omega
theorem VN.inj {V : Nat} {vw : Fn} {w : Int32} {M : Nat} {vn : Nat → Nat} (h : VN V vw w M vn) {i j : Nat} (hi : i < M) (hj : j < M) (e : vn i = vn j) : i = j := by
  rcases Nat.lt_trichotomy i j with q | q | q
  · have := h.2.1 i j q hj; omega
  · exact q
  · have := h.2.1 j i q hi; omega
theorem lfv_bd {cost : Nat → Nat → Nat} {vn : Nat → Nat} {M u N a : Nat} : lfv cost vn M u N a ≤ 100 * N := by
  unfold lfv
  have := sumR_bd (f := fun k => mW cost vn k M) (m := 100) N (fun k _ => mW_le M)
  by_cases hu : 0 < u
  · rw [if_pos hu]; omega
  · rw [if_neg hu]; omega
theorem dst_bd {x y : Nat} (hx : x < 100) (hy : y < 100) : dst x y ≤ 99 := by unfold dst; omega
set_option maxRecDepth 100000 in
set_option maxHeartbeats 4000000 in
theorem lp_walk {d V u N M a k p : Nat} {vw : Fn} {w : Int32} {many hp vp vn : Nat → Nat} {n : Nat} {kd ln : Nat → Nat} {iv0 : Nat → Nat → Nat → Int32} {rv : Nat → Nat → Nat → Nat} {Q : Rt} {bc bs : Nat} (hk : FixK kd) (hl : FixL ln) (hr : FixR rv) (hS : SF V vw w many hp vp u N M vn iv0) (ha : a + (k + 1) = N) (hG : GP V vw w many u a p)
    (hch : ∀ p' iv (Q : Rt), GP V vw w many u (a + 1) p' → TS V vw w many (fun k v => dst (hp k) (vp v)) u N M vn iv0 iv (a + 1) p' (p' * (V + 1) ^ k) → (∀ iv', TS V vw w many (fun k v => dst (hp k) (vp v)) u N M vn iv0 iv' (a + 1) p' ((p' + 1) * (V + 1) ^ k) → Q none ((n, kd, ln), iv', rv)) → MW (d + 1) 22 [.inr 11, .inl (nI (a + 1)), .inl (nI (fA V (fun k v => dst (hp k) (vp v)) (a + 1) p' (a + 1))), .inl (nI (u - cN (V + 1) (a + 1) p' V (a + 1)))] ((n, kd, ln), iv, rv) Q)
    (hQ : ∀ iv', TS V vw w many (fun k v => dst (hp k) (vp v)) u N M vn iv0 iv' a p ((p + 1) * (V + 1) ^ (k + 1)) → Q none ((n, kd, ln), iv', rv)) :
    ∀ j i iv, i + j = M → TS V vw w many (fun k v => dst (hp k) (vp v)) u N M vn iv0 iv a p ((p * (V + 1) + bd vn i) * (V + 1) ^ k) → WPc (MW (d + 1)) 22 Q 33 [some (.inr 11), some (.inl (nI a)), some (.inl (nI (fA V (fun k v => dst (hp k) (vp v)) a p a))), some (.inl (nI (u - cN (V + 1) a p V a))), some (.inl (nI i))] [] ((n, kd, ln), iv, rv) bc bs := by
  obtain ⟨⟨sN, sM, sN6, sM4, sV4, su⟩, sVN, sm8, s17, svp, s13, s16⟩ := id hS
  have hfb : fA V (fun k v => dst (hp k) (vp v)) a p a ≤ 99 * a := fA_bd (Nat.le_refl a) (fun k' v' h1 h2 => dst_bd (s13 k' (by omega)).2 (svp v' h2))
  have q3 : vp_in (nI a) 6 := vp_in_nI (by omega) (by decide)
  have q4 : (nI a).toNatClampNeg = a := nI_clamp (by omega)
  intro j
  induction j with
  | zero =>
    intro i iv hi hT
    obtain rfl : i = M := by omega
    obtain ⟨hF, hr1, hc1, bs', hb1, hB⟩ := id hT
    have fM : iv 6 11 9 = nI i := by rw [hF.2.2 9 (by decide)]; exact sM
    have hB2 : BI V vw w many (fun k v => dst (hp k) (vp v)) u N (iv 20 15) bs' ((p * (V + 1) + V) * (V + 1) ^ k) := by
      have hbd : bd vn i ≤ V := by
        cases i with
        | zero => exact Nat.zero_le _
        | succ i => unfold bd; exact (sVN.1 i (by omega)).1
      refine BI.bad (q := bd vn i) (q' := V) ha (V - bd vn i) (by omega) (by omega) (fun v v1 v2 hg => ?_) hB
      rcases (hg.last (by omega)).1 with z | z
      · omega
      · exact sVN.gap (Nat.le_refl _) v1 v2 (fun z => by omega) z
    have eK : (p * (V + 1) + (V + 1)) * (V + 1) ^ k = (p + 1) * (V + 1) ^ (k + 1) := by rw [Nat.pow_succ, Nat.mul_comm ((V + 1) ^ k), ← Nat.mul_assoc, Nat.succ_mul]
    rw [WP_eq, k22_33]
    by_cases hu : cN (V + 1) a p V a < u
    · have u1 : ¬ nI (u - cN (V + 1) a p V a) ≤ 0 := nI_nle (by omega) (by omega)
      simp only [e_lI0, e_lR0, e_st0, e_lI1, e_lR1, e_st1, e_lI2, e_lR2, e_st2, e_lI3, e_lR3, e_st3, e_lI4, e_lR4, e_st4, e_lI5, e_lR5, e_st5, e_lI6, e_lR6, e_st6, e_lI7, e_lR7, e_st7, e_lI8, e_lR8, e_st8, e_swn, e_swc, e_sw0, e_sw1, e_sw2, e_sw3, e_sw4, e_sw5, e_sw6, e_sw7, e_sw8, e_sw9, Option.toList_some, Option.toList_none, List.cons_append, List.nil_append, List.length_cons, List.length_nil, Nat.reduceAdd, Nat.reduceLeDiff, Nat.zero_le, Nat.le_refl, true_and, and_true, WP_eq, Nat.reduceSub, if_true, if_false, Nat.reduceEqDiff, not_false_eq_true, i_10, i_01, Int32.reduceLT, Int32.reduceLE, true_or, or_true, ne_eq, fk_2 hk, fk_8 hk, fk_11 hk, fk_20 hk, fk_29 hk, fr_6_11_4 hr, fk_16 hk, fl_16 hl, fr_6_11_7 hr, fk_19 hk, fl_19 hl, fr_6_11_2 hr, fk_14 hk, fl_14 hl, fr_6_11_5 hr, fk_17 hk, fl_17 hl, c_20, c_21, c_22, k22_0, k22_1, k22_10, k22_100, k22_101, k22_102, k22_103, k22_104, k22_107, k22_110, k22_111, k22_114, k22_115, k22_118, k22_119, k22_120, k22_121, k22_122, k22_123, k22_124, k22_125, k22_126, k22_127, k22_128, k22_129, k22_13, k22_132, k22_14, k22_15, k22_16, k22_19, k22_2, k22_20, k22_21, k22_22, k22_23, k22_26, k22_29, k22_30, k22_31, k22_35, k22_36, k22_39, k22_42, k22_43, k22_46, k22_48, k22_49, k22_5, k22_52, k22_53, k22_56, k22_58, k22_59, k22_60, k22_61, k22_62, k22_63, k22_64, k22_67, k22_68, k22_69, k22_72, k22_74, k22_75, k22_76, k22_77, k22_78, k22_79, k22_8, k22_80, k22_81, k22_82, k22_83, k22_85, k22_88, k22_89, k22_9, k22_90, k22_93, k22_94, k22_97, k22_99, s_aload_n, s_dup2, s_goto, s_iadd, s_iaload20, s_iastore, s_icmp_ge, s_icmp_lt, s_iconst, s_if_le, s_iinc, s_iload, s_iload_n, s_istore, s_isub, s_return, sg_6_10, sg_6_2, sg_6_4, sg_6_5, sg_6_7, sg_6_8, sg_6_9, fM, nI_self_le, u1, q3, q4]
      have e1 : nI a + 1 = nI (a + 1) := nI_1 a
      have e2 : fA V (fun k v => dst (hp k) (vp v)) a p a = fA V (fun k v => dst (hp k) (vp v)) (a + 1) (p * (V + 1) + V) (a + 1) := by rw [fA_step (by omega), if_pos rfl]; rfl
      have e3 : nI (u - cN (V + 1) a p V a) - 1 = nI (u - cN (V + 1) (a + 1) (p * (V + 1) + V) V (a + 1)) := by
        rw [cN_step (by omega), if_pos rfl, show u - cN (V + 1) a p V a = (u - (cN (V + 1) a p V a + 1)) + 1 by omega, nI_pred]
      rw [e1, e3, e2]
      refine hch (p * (V + 1) + V) _ _ (hG.stepV hu) ⟨⟨fun K k1 k2 => ?_, fun b b1 b2 b3 => ?_, fun q q1 => ?_⟩, fun i' hi' => ?_, fun k' hk' => ?_, bs', ?_, ?_⟩ (fun iv' hT' => ?_)
      · rw [u3_c k2]; exact hF.1 K k1 k2
      · rw [u3_a b1]; exact hF.2.1 b b1 b2 b3
      · rw [u3_c (by decide)]; exact hF.2.2 q q1
      · rw [u3_a (by decide), hr1 i' hi', cN_step (by omega), if_neg (by have := (sVN.1 i' hi').1; omega)]
        rfl
      · by_cases e : k' = a
        · subst e
          rw [u3_s, dgg_last (by omega)]
          unfold enc
          rw [if_pos rfl]
        · rw [u3_j e, dgg_old (by omega) (by omega)]
          exact hc1 k' (by omega)
      · rw [u3_c (by decide)]; exact hb1
      · rw [u3_a (by decide)]; exact hB2
      · simp only [e_lI0, e_lR0, e_st0, e_lI1, e_lR1, e_st1, e_lI2, e_lR2, e_st2, e_lI3, e_lR3, e_st3, e_lI4, e_lR4, e_st4, e_lI5, e_lR5, e_st5, e_lI6, e_lR6, e_st6, e_lI7, e_lR7, e_st7, e_lI8, e_lR8, e_st8, e_swn, e_swc, e_sw0, e_sw1, e_sw2, e_sw3, e_sw4, e_sw5, e_sw6, e_sw7, e_sw8, e_sw9, Option.toList_some, Option.toList_none, List.cons_append, List.nil_append, List.length_cons, List.length_nil, Nat.reduceAdd, Nat.reduceLeDiff, Nat.zero_le, Nat.le_refl, true_and, and_true, WP_eq, Nat.reduceSub, if_true, if_false, Nat.reduceEqDiff, not_false_eq_true, i_10, i_01, Int32.reduceLT, Int32.reduceLE, true_or, or_true, ne_eq, fk_2 hk, fk_8 hk, fk_11 hk, fk_20 hk, fk_29 hk, fr_6_11_4 hr, fk_16 hk, fl_16 hl, fr_6_11_7 hr, fk_19 hk, fl_19 hl, fr_6_11_2 hr, fk_14 hk, fl_14 hl, fr_6_11_5 hr, fk_17 hk, fl_17 hl, c_20, c_21, c_22, k22_0, k22_1, k22_10, k22_100, k22_101, k22_102, k22_103, k22_104, k22_107, k22_110, k22_111, k22_114, k22_115, k22_118, k22_119, k22_120, k22_121, k22_122, k22_123, k22_124, k22_125, k22_126, k22_127, k22_128, k22_129, k22_13, k22_132, k22_14, k22_15, k22_16, k22_19, k22_2, k22_20, k22_21, k22_22, k22_23, k22_26, k22_29, k22_30, k22_31, k22_35, k22_36, k22_39, k22_42, k22_43, k22_46, k22_48, k22_49, k22_5, k22_52, k22_53, k22_56, k22_58, k22_59, k22_60, k22_61, k22_62, k22_63, k22_64, k22_67, k22_68, k22_69, k22_72, k22_74, k22_75, k22_76, k22_77, k22_78, k22_79, k22_8, k22_80, k22_81, k22_82, k22_83, k22_85, k22_88, k22_89, k22_9, k22_90, k22_93, k22_94, k22_97, k22_99, s_aload_n, s_dup2, s_goto, s_iadd, s_iaload20, s_iastore, s_icmp_ge, s_icmp_lt, s_iconst, s_if_le, s_iinc, s_iload, s_iload_n, s_istore, s_isub, s_return, sg_6_10, sg_6_2, sg_6_4, sg_6_5, sg_6_7, sg_6_8, sg_6_9]
        obtain ⟨hF', hr', hc', bs2, hb2, hB3⟩ := hT'
        refine hQ iv' ⟨hF', fun i' hi' => ?_, fun k' hk' => ?_, bs2, hb2, ?_⟩
        · rw [hr' i' hi', cN_step (by omega), if_neg (by have := (sVN.1 i' hi').1; omega)]
          rfl
        · rw [hc' k' (by omega), dgg_old (by omega) hk']
        · rw [← eK]; exact hB3
    · have u1 : nI (u - cN (V + 1) a p V a) ≤ 0 := by rw [show u - cN (V + 1) a p V a = 0 by omega]; decide
      simp only [e_lI0, e_lR0, e_st0, e_lI1, e_lR1, e_st1, e_lI2, e_lR2, e_st2, e_lI3, e_lR3, e_st3, e_lI4, e_lR4, e_st4, e_lI5, e_lR5, e_st5, e_lI6, e_lR6, e_st6, e_lI7, e_lR7, e_st7, e_lI8, e_lR8, e_st8, e_swn, e_swc, e_sw0, e_sw1, e_sw2, e_sw3, e_sw4, e_sw5, e_sw6, e_sw7, e_sw8, e_sw9, Option.toList_some, Option.toList_none, List.cons_append, List.nil_append, List.length_cons, List.length_nil, Nat.reduceAdd, Nat.reduceLeDiff, Nat.zero_le, Nat.le_refl, true_and, and_true, WP_eq, Nat.reduceSub, if_true, if_false, Nat.reduceEqDiff, not_false_eq_true, i_10, i_01, Int32.reduceLT, Int32.reduceLE, true_or, or_true, ne_eq, fk_2 hk, fk_8 hk, fk_11 hk, fk_20 hk, fk_29 hk, fr_6_11_4 hr, fk_16 hk, fl_16 hl, fr_6_11_7 hr, fk_19 hk, fl_19 hl, fr_6_11_2 hr, fk_14 hk, fl_14 hl, fr_6_11_5 hr, fk_17 hk, fl_17 hl, c_20, c_21, c_22, k22_0, k22_1, k22_10, k22_100, k22_101, k22_102, k22_103, k22_104, k22_107, k22_110, k22_111, k22_114, k22_115, k22_118, k22_119, k22_120, k22_121, k22_122, k22_123, k22_124, k22_125, k22_126, k22_127, k22_128, k22_129, k22_13, k22_132, k22_14, k22_15, k22_16, k22_19, k22_2, k22_20, k22_21, k22_22, k22_23, k22_26, k22_29, k22_30, k22_31, k22_35, k22_36, k22_39, k22_42, k22_43, k22_46, k22_48, k22_49, k22_5, k22_52, k22_53, k22_56, k22_58, k22_59, k22_60, k22_61, k22_62, k22_63, k22_64, k22_67, k22_68, k22_69, k22_72, k22_74, k22_75, k22_76, k22_77, k22_78, k22_79, k22_8, k22_80, k22_81, k22_82, k22_83, k22_85, k22_88, k22_89, k22_9, k22_90, k22_93, k22_94, k22_97, k22_99, s_aload_n, s_dup2, s_goto, s_iadd, s_iaload20, s_iastore, s_icmp_ge, s_icmp_lt, s_iconst, s_if_le, s_iinc, s_iload, s_iload_n, s_istore, s_isub, s_return, sg_6_10, sg_6_2, sg_6_4, sg_6_5, sg_6_7, sg_6_8, sg_6_9, fM, nI_self_le, u1]
      refine hQ iv ⟨hF, hr1, hc1, bs', hb1, ?_⟩
      rw [← eK]
      refine BI.bad (q := V) (q' := V + 1) ha 1 rfl (Nat.le_refl _) (fun v v1 v2 hg => ?_) hB2
      obtain rfl : v = V := by omega
      exact hu ((hg.last (by omega)).2.2 rfl)
  | succ j ih =>
    intro i iv hi hT
    obtain ⟨hF, hr1, hc1, bs', hb1, hB⟩ := id hT
    have hiM : i < M := by omega
    obtain ⟨v1, v2⟩ := sVN.1 i hiM
    have fM : iv 6 11 9 = nI M := by rw [hF.2.2 9 (by decide)]; exact sM
    have c1 : ¬ nI M ≤ nI i := nI_ge hiM (by omega)
    have q5 : vp_in (nI i) 4 := vp_in_nI (by omega) (by decide)
    have q6 : (nI i).toNatClampNeg = i := nI_clamp (by omega)
    have r1 := hr1 i hiM
    have m8 := sm8 (vn i) v1
    have hbd : bd vn i ≤ vn i := by
      cases i with
      | zero => exact Nat.zero_le _
      | succ i => exact sVN.2.1 i (i + 1) (by omega) hiM
    have hB2 : BI V vw w many (fun k v => dst (hp k) (vp v)) u N (iv 20 15) bs' ((p * (V + 1) + vn i) * (V + 1) ^ k) := by
      refine BI.bad (q := bd vn i) (q' := vn i) ha (vn i - bd vn i) (by omega) (by omega) (fun v v1 v2 hg => ?_) hB
      rcases (hg.last (by omega)).1 with z | z
      · omega
      · exact sVN.gap (by omega) v1 (by omega) (fun _ => v2) z
    rw [WP_eq, k22_33]
    by_cases hm : cN (V + 1) a p (vn i) a < many (vn i)
    · have u1 : ¬ nI (many (vn i) - cN (V + 1) a p (vn i) a) ≤ 0 := nI_nle (by omega) (by omega)
      have f17 : iv 20 17 i = nI (vn i) := by rw [hF.2.1 17 (by decide) (by decide) (by decide)]; exact (s17 i hiM).1
      have f18 : u3 (u3 iv 20 19 i (nI (many (vn i) - cN (V + 1) a p (vn i) a) - 1)) 20 14 a (nI (vn i)) 20 18 i = nI (vp (vn i)) := by rw [u3_a (by decide), u3_a (by decide), hF.2.1 18 (by decide) (by decide) (by decide)]; exact (s17 i hiM).2
      have f13 : u3 (u3 iv 20 19 i (nI (many (vn i) - cN (V + 1) a p (vn i) a) - 1)) 20 14 a (nI (vn i)) 20 13 a = nI (hp a) := by rw [u3_a (by decide), u3_a (by decide), hF.2.1 13 (by decide) (by decide) (by decide)]; exact (s13 a (by omega)).1
      simp only [e_lI0, e_lR0, e_st0, e_lI1, e_lR1, e_st1, e_lI2, e_lR2, e_st2, e_lI3, e_lR3, e_st3, e_lI4, e_lR4, e_st4, e_lI5, e_lR5, e_st5, e_lI6, e_lR6, e_st6, e_lI7, e_lR7, e_st7, e_lI8, e_lR8, e_st8, e_swn, e_swc, e_sw0, e_sw1, e_sw2, e_sw3, e_sw4, e_sw5, e_sw6, e_sw7, e_sw8, e_sw9, Option.toList_some, Option.toList_none, List.cons_append, List.nil_append, List.length_cons, List.length_nil, Nat.reduceAdd, Nat.reduceLeDiff, Nat.zero_le, Nat.le_refl, true_and, and_true, WP_eq, Nat.reduceSub, if_true, if_false, Nat.reduceEqDiff, not_false_eq_true, i_10, i_01, Int32.reduceLT, Int32.reduceLE, true_or, or_true, ne_eq, fk_2 hk, fk_8 hk, fk_11 hk, fk_20 hk, fk_29 hk, fr_6_11_4 hr, fk_16 hk, fl_16 hl, fr_6_11_7 hr, fk_19 hk, fl_19 hl, fr_6_11_2 hr, fk_14 hk, fl_14 hl, fr_6_11_5 hr, fk_17 hk, fl_17 hl, c_20, c_21, c_22, k22_0, k22_1, k22_10, k22_100, k22_101, k22_102, k22_103, k22_104, k22_107, k22_110, k22_111, k22_114, k22_115, k22_118, k22_119, k22_120, k22_121, k22_122, k22_123, k22_124, k22_125, k22_126, k22_127, k22_128, k22_129, k22_13, k22_132, k22_14, k22_15, k22_16, k22_19, k22_2, k22_20, k22_21, k22_22, k22_23, k22_26, k22_29, k22_30, k22_31, k22_35, k22_36, k22_39, k22_42, k22_43, k22_46, k22_48, k22_49, k22_5, k22_52, k22_53, k22_56, k22_58, k22_59, k22_60, k22_61, k22_62, k22_63, k22_64, k22_67, k22_68, k22_69, k22_72, k22_74, k22_75, k22_76, k22_77, k22_78, k22_79, k22_8, k22_80, k22_81, k22_82, k22_83, k22_85, k22_88, k22_89, k22_9, k22_90, k22_93, k22_94, k22_97, k22_99, s_aload_n, s_dup2, s_goto, s_iadd, s_iaload20, s_iastore, s_icmp_ge, s_icmp_lt, s_iconst, s_if_le, s_iinc, s_iload, s_iload_n, s_istore, s_isub, s_return, sg_6_10, sg_6_2, sg_6_4, sg_6_5, sg_6_7, sg_6_8, sg_6_9, fM, c1, r1, u1, q3, q4, q5, q6, Nat.add_left_cancel_iff, u3_d, eq_self, false_and, and_false, and_self, if_true, if_false, Nat.reduceEqDiff, f17]
      simp only [L_way hk hl hr (show a < 6 by omega) (show i < 4 by omega) f13 f18 (s13 a (by omega)).2 (svp (vn i) v1), e_lI0, e_lR0, e_st0, e_lI1, e_lR1, e_st1, e_lI2, e_lR2, e_st2, e_lI3, e_lR3, e_st3, e_lI4, e_lR4, e_st4, e_lI5, e_lR5, e_st5, e_lI6, e_lR6, e_st6, e_lI7, e_lR7, e_st7, e_lI8, e_lR8, e_st8, e_swn, e_swc, e_sw0, e_sw1, e_sw2, e_sw3, e_sw4, e_sw5, e_sw6, e_sw7, e_sw8, e_sw9, Option.toList_some, Option.toList_none, List.cons_append, List.nil_append, List.length_cons, List.length_nil, Nat.reduceAdd, Nat.reduceLeDiff, Nat.zero_le, Nat.le_refl, true_and, and_true, WP_eq, Nat.reduceSub, if_true, if_false, Nat.reduceEqDiff, not_false_eq_true, i_10, i_01, Int32.reduceLT, Int32.reduceLE, true_or, or_true, ne_eq, fk_2 hk, fk_8 hk, fk_11 hk, fk_20 hk, fk_29 hk, fr_6_11_4 hr, fk_16 hk, fl_16 hl, fr_6_11_7 hr, fk_19 hk, fl_19 hl, fr_6_11_2 hr, fk_14 hk, fl_14 hl, fr_6_11_5 hr, fk_17 hk, fl_17 hl, c_20, c_21, c_22, k22_0, k22_1, k22_10, k22_100, k22_101, k22_102, k22_103, k22_104, k22_107, k22_110, k22_111, k22_114, k22_115, k22_118, k22_119, k22_120, k22_121, k22_122, k22_123, k22_124, k22_125, k22_126, k22_127, k22_128, k22_129, k22_13, k22_132, k22_14, k22_15, k22_16, k22_19, k22_2, k22_20, k22_21, k22_22, k22_23, k22_26, k22_29, k22_30, k22_31, k22_35, k22_36, k22_39, k22_42, k22_43, k22_46, k22_48, k22_49, k22_5, k22_52, k22_53, k22_56, k22_58, k22_59, k22_60, k22_61, k22_62, k22_63, k22_64, k22_67, k22_68, k22_69, k22_72, k22_74, k22_75, k22_76, k22_77, k22_78, k22_79, k22_8, k22_80, k22_81, k22_82, k22_83, k22_85, k22_88, k22_89, k22_9, k22_90, k22_93, k22_94, k22_97, k22_99, s_aload_n, s_dup2, s_goto, s_iadd, s_iaload20, s_iastore, s_icmp_ge, s_icmp_lt, s_iconst, s_if_le, s_iinc, s_iload, s_iload_n, s_istore, s_isub, s_return, sg_6_10, sg_6_2, sg_6_4, sg_6_5, sg_6_7, sg_6_8, sg_6_9]
      have e1 : nI a + 1 = nI (a + 1) := nI_1 a
      have e2 : nI (fA V (fun k v => dst (hp k) (vp v)) a p a) + nI (dst (hp a) (vp (vn i))) = nI (fA V (fun k v => dst (hp k) (vp v)) (a + 1) (p * (V + 1) + vn i) (a + 1)) := by rw [fA_step (by omega), if_neg (by omega), nI_add]
      have e3 : nI (u - cN (V + 1) a p V a) = nI (u - cN (V + 1) (a + 1) (p * (V + 1) + vn i) V (a + 1)) := by rw [cN_step (by omega), if_neg (by omega)]; rfl
      have e4 : nI (many (vn i) - cN (V + 1) a p (vn i) a) - 1 = nI (many (vn i) - cN (V + 1) (a + 1) (p * (V + 1) + vn i) (vn i) (a + 1)) := by
        rw [cN_step (by omega), if_pos rfl, show many (vn i) - cN (V + 1) a p (vn i) a = (many (vn i) - (cN (V + 1) a p (vn i) a + 1)) + 1 by omega, nI_pred]
      rw [e1, e2, e3]
      refine hch (p * (V + 1) + vn i) _ _ (hG.step v1 v2 hm) ⟨⟨fun K k1 k2 => ?_, fun b b1 b2 b3 => ?_, fun q q1 => ?_⟩, fun i' hi' => ?_, fun k' hk' => ?_, bs', ?_, ?_⟩ (fun iv' hT' => ?_)
      · rw [u3_c k2, u3_c k2]; exact hF.1 K k1 k2
      · rw [u3_a b1, u3_a b3]; exact hF.2.1 b b1 b2 b3
      · rw [u3_c (by decide), u3_c (by decide)]; exact hF.2.2 q q1
      · rw [u3_a (by decide)]
        by_cases e : i' = i
        · subst e
          rw [u3_s, e4]
        · rw [u3_j e, hr1 i' hi', cN_step (by omega), if_neg (fun z => e (sVN.inj hiM hi' z).symm)]
          rfl
      · by_cases e : k' = a
        · subst e
          rw [u3_s, dgg_last (by omega)]
          unfold enc
          rw [if_neg (by omega)]
        · rw [u3_j e, u3_a (by decide), dgg_old (by omega) (by omega)]
          exact hc1 k' (by omega)
      · rw [u3_c (by decide), u3_c (by decide)]; exact hb1
      · rw [u3_a (by decide), u3_a (by decide)]; exact hB2
      · obtain ⟨hF', hr', hc', bs2, hb2, hB3⟩ := hT'
        have r2 := hr' i hiM
        simp only [e_lI0, e_lR0, e_st0, e_lI1, e_lR1, e_st1, e_lI2, e_lR2, e_st2, e_lI3, e_lR3, e_st3, e_lI4, e_lR4, e_st4, e_lI5, e_lR5, e_st5, e_lI6, e_lR6, e_st6, e_lI7, e_lR7, e_st7, e_lI8, e_lR8, e_st8, e_swn, e_swc, e_sw0, e_sw1, e_sw2, e_sw3, e_sw4, e_sw5, e_sw6, e_sw7, e_sw8, e_sw9, Option.toList_some, Option.toList_none, List.cons_append, List.nil_append, List.length_cons, List.length_nil, Nat.reduceAdd, Nat.reduceLeDiff, Nat.zero_le, Nat.le_refl, true_and, and_true, WP_eq, Nat.reduceSub, if_true, if_false, Nat.reduceEqDiff, not_false_eq_true, i_10, i_01, Int32.reduceLT, Int32.reduceLE, true_or, or_true, ne_eq, fk_2 hk, fk_8 hk, fk_11 hk, fk_20 hk, fk_29 hk, fr_6_11_4 hr, fk_16 hk, fl_16 hl, fr_6_11_7 hr, fk_19 hk, fl_19 hl, fr_6_11_2 hr, fk_14 hk, fl_14 hl, fr_6_11_5 hr, fk_17 hk, fl_17 hl, c_20, c_21, c_22, k22_0, k22_1, k22_10, k22_100, k22_101, k22_102, k22_103, k22_104, k22_107, k22_110, k22_111, k22_114, k22_115, k22_118, k22_119, k22_120, k22_121, k22_122, k22_123, k22_124, k22_125, k22_126, k22_127, k22_128, k22_129, k22_13, k22_132, k22_14, k22_15, k22_16, k22_19, k22_2, k22_20, k22_21, k22_22, k22_23, k22_26, k22_29, k22_30, k22_31, k22_35, k22_36, k22_39, k22_42, k22_43, k22_46, k22_48, k22_49, k22_5, k22_52, k22_53, k22_56, k22_58, k22_59, k22_60, k22_61, k22_62, k22_63, k22_64, k22_67, k22_68, k22_69, k22_72, k22_74, k22_75, k22_76, k22_77, k22_78, k22_79, k22_8, k22_80, k22_81, k22_82, k22_83, k22_85, k22_88, k22_89, k22_9, k22_90, k22_93, k22_94, k22_97, k22_99, s_aload_n, s_dup2, s_goto, s_iadd, s_iaload20, s_iastore, s_icmp_ge, s_icmp_lt, s_iconst, s_if_le, s_iinc, s_iload, s_iload_n, s_istore, s_isub, s_return, sg_6_10, sg_6_2, sg_6_4, sg_6_5, sg_6_7, sg_6_8, sg_6_9, q5, q6, r2]
        rw [← WP_eq, nI_1 i, ← e3]
        refine ih (i + 1) _ (by omega) ⟨⟨fun K k1 k2 => ?_, fun b b1 b2 b3 => ?_, fun q q1 => ?_⟩, fun i' hi' => ?_, fun k' hk' => ?_, bs2, ?_, ?_⟩
        · rw [u3_c k2]; exact hF'.1 K k1 k2
        · rw [u3_a b3]; exact hF'.2.1 b b1 b2 b3
        · rw [u3_c (by decide)]; exact hF'.2.2 q q1
        · by_cases e : i' = i
          · subst e
            rw [u3_s, ← e4, Int32.sub_add_cancel]
          · rw [u3_j e, hr' i' hi', cN_step (by omega), if_neg (fun z => e (sVN.inj hiM hi' z).symm)]
            rfl
        · rw [u3_a (by decide), hc' k' (by omega), dgg_old (by omega) hk']
        · rw [u3_c (by decide)]; exact hb2
        · rw [u3_a (by decide)]; exact hB3
    · have u1 : nI (many (vn i) - cN (V + 1) a p (vn i) a) ≤ 0 := by rw [show many (vn i) - cN (V + 1) a p (vn i) a = 0 by omega]; decide
      simp only [e_lI0, e_lR0, e_st0, e_lI1, e_lR1, e_st1, e_lI2, e_lR2, e_st2, e_lI3, e_lR3, e_st3, e_lI4, e_lR4, e_st4, e_lI5, e_lR5, e_st5, e_lI6, e_lR6, e_st6, e_lI7, e_lR7, e_st7, e_lI8, e_lR8, e_st8, e_swn, e_swc, e_sw0, e_sw1, e_sw2, e_sw3, e_sw4, e_sw5, e_sw6, e_sw7, e_sw8, e_sw9, Option.toList_some, Option.toList_none, List.cons_append, List.nil_append, List.length_cons, List.length_nil, Nat.reduceAdd, Nat.reduceLeDiff, Nat.zero_le, Nat.le_refl, true_and, and_true, WP_eq, Nat.reduceSub, if_true, if_false, Nat.reduceEqDiff, not_false_eq_true, i_10, i_01, Int32.reduceLT, Int32.reduceLE, true_or, or_true, ne_eq, fk_2 hk, fk_8 hk, fk_11 hk, fk_20 hk, fk_29 hk, fr_6_11_4 hr, fk_16 hk, fl_16 hl, fr_6_11_7 hr, fk_19 hk, fl_19 hl, fr_6_11_2 hr, fk_14 hk, fl_14 hl, fr_6_11_5 hr, fk_17 hk, fl_17 hl, c_20, c_21, c_22, k22_0, k22_1, k22_10, k22_100, k22_101, k22_102, k22_103, k22_104, k22_107, k22_110, k22_111, k22_114, k22_115, k22_118, k22_119, k22_120, k22_121, k22_122, k22_123, k22_124, k22_125, k22_126, k22_127, k22_128, k22_129, k22_13, k22_132, k22_14, k22_15, k22_16, k22_19, k22_2, k22_20, k22_21, k22_22, k22_23, k22_26, k22_29, k22_30, k22_31, k22_35, k22_36, k22_39, k22_42, k22_43, k22_46, k22_48, k22_49, k22_5, k22_52, k22_53, k22_56, k22_58, k22_59, k22_60, k22_61, k22_62, k22_63, k22_64, k22_67, k22_68, k22_69, k22_72, k22_74, k22_75, k22_76, k22_77, k22_78, k22_79, k22_8, k22_80, k22_81, k22_82, k22_83, k22_85, k22_88, k22_89, k22_9, k22_90, k22_93, k22_94, k22_97, k22_99, s_aload_n, s_dup2, s_goto, s_iadd, s_iaload20, s_iastore, s_icmp_ge, s_icmp_lt, s_iconst, s_if_le, s_iinc, s_iload, s_iload_n, s_istore, s_isub, s_return, sg_6_10, sg_6_2, sg_6_4, sg_6_5, sg_6_7, sg_6_8, sg_6_9, fM, c1, r1, u1, q5, q6]
      rw [← WP_eq, nI_1]
      refine ih (i + 1) iv (by omega) ⟨hF, hr1, hc1, bs', hb1, ?_⟩
      refine BI.bad (q := vn i) (q' := vn i + 1) ha 1 rfl (by omega) (fun v w1 w2 hg => ?_) hB2
      obtain rfl : v = vn i := by omega
      exact hm ((hg.last (by omega)).2.1 v1)
