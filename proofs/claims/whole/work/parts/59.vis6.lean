theorem i_sm {x : Int32} : x + (-1) = x - 1 := (Int32.sub_eq_add_neg x 1).symm
def SL (iv0 iv : Nat → Nat → Nat → Int32) : Prop := (∀ K, K ≠ 20 → iv K = iv0 K) ∧ (∀ a, a ≠ 16 → iv 20 a = iv0 20 a)
set_option maxRecDepth 100000 in
set_option maxHeartbeats 4000000 in
theorem lp_sums_z {d : Nat} {u x : Int32} {n : Nat} {kd ln : Nat → Nat} {iv : Nat → Nat → Nat → Int32} {rv : Nat → Nat → Nat → Nat} {Q : Rt} {bc bs : Nat} (hk : FixK kd) (hl : FixL ln) (hr : FixR rv) (c1 : x < 0) : WPc (MW (d + 2)) 18 Q 17 [some (.inr 11), some (.inl u), some (.inl x)] [] ((n, kd, ln), iv, rv) bc bs = Q none ((n, kd, ln), iv, rv) := by
  rw [WP_eq, k18_17]
  simp only [e_lI0, e_lR0, e_st0, e_lI1, e_lR1, e_st1, e_lI2, e_lR2, e_st2, e_lI3, e_lR3, e_st3, e_lI4, e_lR4, e_st4, e_lI5, e_lR5, e_st5, e_lI6, e_lR6, e_st6, e_lI7, e_lR7, e_st7, e_lI8, e_lR8, e_st8, e_swn, e_swc, e_sw0, e_sw1, e_sw2, e_sw3, e_sw4, e_sw5, e_sw6, e_sw7, e_sw8, e_sw9, Option.toList_some, Option.toList_none, List.cons_append, List.nil_append, List.length_cons, List.length_nil, Nat.reduceAdd, Nat.reduceLeDiff, Nat.zero_le, Nat.le_refl, true_and, and_true, WP_eq, Nat.reduceSub, if_true, if_false, Nat.reduceEqDiff, not_false_eq_true, i_10, i_01, Int32.reduceLT, Int32.reduceLE, true_or, or_true, ne_eq, fk_2 hk, fk_8 hk, fk_11 hk, fk_20 hk, fk_29 hk, fr_6_11_4 hr, fk_16 hk, fl_16 hl, en_18, c_19, k18_0, k18_1, k18_10, k18_11, k18_14, k18_15, k18_16, k18_18, k18_21, k18_22, k18_25, k18_26, k18_27, k18_30, k18_31, k18_34, k18_35, k18_38, k18_39, k18_4, k18_40, k18_41, k18_42, k18_43, k18_44, k18_47, k18_48, k18_49, k18_5, k18_55, k18_8, k18_9, s_aload_n, s_goto, s_iadd, s_iaload20, s_iastore, s_iconst, s_if_le, s_if_lt, s_iinc, s_iload_n, s_istore_n, s_isub, s_return, sg_6_4, sg_6_8, c1]
set_option maxRecDepth 100000 in
set_option maxHeartbeats 4000000 in
theorem lp_sums_u {d j u : Nat} {n : Nat} {kd ln : Nat → Nat} {iv : Nat → Nat → Nat → Int32} {rv : Nat → Nat → Nat → Nat} {Q : Rt} {bc bs : Nat} (hk : FixK kd) (hl : FixL ln) (hr : FixR rv) (hj : j < 6) (hu : 0 < u) (hu6 : u ≤ 6) (hQ : WPc (MW (d + 2)) 18 Q 17 [some (.inr 11), some (.inl (nI u)), some (.inl (nI j + (-1)))] [] ((n, kd, ln), u3 iv 20 16 j 0, rv) bc bs) : WPc (MW (d + 2)) 18 Q 17 [some (.inr 11), some (.inl (nI u)), some (.inl (nI j))] [] ((n, kd, ln), iv, rv) bc bs := by
  have c1 : ¬ nI j < 0 := nI_pos (by omega)
  have q3 : vp_in (nI j) 7 := vp_in_nI (by omega) (by decide)
  have q4 : (nI j).toNatClampNeg = j := nI_clamp (by omega)
  have u1 : ¬ nI u ≤ 0 := nI_nle hu (by omega)
  rw [WP_eq, k18_17]
  simp only [e_lI0, e_lR0, e_st0, e_lI1, e_lR1, e_st1, e_lI2, e_lR2, e_st2, e_lI3, e_lR3, e_st3, e_lI4, e_lR4, e_st4, e_lI5, e_lR5, e_st5, e_lI6, e_lR6, e_st6, e_lI7, e_lR7, e_st7, e_lI8, e_lR8, e_st8, e_swn, e_swc, e_sw0, e_sw1, e_sw2, e_sw3, e_sw4, e_sw5, e_sw6, e_sw7, e_sw8, e_sw9, Option.toList_some, Option.toList_none, List.cons_append, List.nil_append, List.length_cons, List.length_nil, Nat.reduceAdd, Nat.reduceLeDiff, Nat.zero_le, Nat.le_refl, true_and, and_true, WP_eq, Nat.reduceSub, if_true, if_false, Nat.reduceEqDiff, not_false_eq_true, i_10, i_01, Int32.reduceLT, Int32.reduceLE, true_or, or_true, ne_eq, fk_2 hk, fk_8 hk, fk_11 hk, fk_20 hk, fk_29 hk, fr_6_11_4 hr, fk_16 hk, fl_16 hl, en_18, c_19, k18_0, k18_1, k18_10, k18_11, k18_14, k18_15, k18_16, k18_18, k18_21, k18_22, k18_25, k18_26, k18_27, k18_30, k18_31, k18_34, k18_35, k18_38, k18_39, k18_4, k18_40, k18_41, k18_42, k18_43, k18_44, k18_47, k18_48, k18_49, k18_5, k18_55, k18_8, k18_9, s_aload_n, s_goto, s_iadd, s_iaload20, s_iastore, s_iconst, s_if_le, s_if_lt, s_iinc, s_iload_n, s_istore_n, s_isub, s_return, sg_6_4, sg_6_8, c1, u1, q3, q4]
  rw [k18_52, s_goto]
  exact hQ
set_option maxRecDepth 100000 in
set_option maxHeartbeats 4000000 in
theorem lp_sums_v {d j g m : Nat} {n : Nat} {kd ln : Nat → Nat} {iv : Nat → Nat → Nat → Int32} {rv : Nat → Nat → Nat → Nat} {Q : Rt} {bc bs : Nat} (hk : FixK kd) (hl : FixL ln) (hr : FixR rv) (hj : j < 6) (hg : iv 20 16 (j + 1) = nI g) (hm : ∀ Q : Rt, MW (d + 2) 19 [.inr 11, .inl (nI j)] ((n, kd, ln), iv, rv) Q = Q (some (.inl (nI m))) ((n, kd, ln), iv, rv)) (hQ : WPc (MW (d + 2)) 18 Q 17 [some (.inr 11), some (.inl (nI 0)), some (.inl (nI j + (-1)))] [] ((n, kd, ln), u3 iv 20 16 j (nI g + nI m), rv) bc bs) : WPc (MW (d + 2)) 18 Q 17 [some (.inr 11), some (.inl (nI 0)), some (.inl (nI j))] [] ((n, kd, ln), iv, rv) bc bs := by
  have c1 : ¬ nI j < 0 := nI_pos (by omega)
  have q3 : vp_in (nI j) 7 := vp_in_nI (by omega) (by decide)
  have q4 : (nI j).toNatClampNeg = j := nI_clamp (by omega)
  have q5 : vp_in (nI (j + 1)) 7 := vp_in_nI (by omega) (by decide)
  have q6 : (nI (j + 1)).toNatClampNeg = j + 1 := nI_clamp (by omega)
  have e1 : nI j + 1 = nI (j + 1) := nI_1 j
  have u1 : nI 0 ≤ 0 := by decide
  rw [WP_eq, k18_17]
  simp only [e_lI0, e_lR0, e_st0, e_lI1, e_lR1, e_st1, e_lI2, e_lR2, e_st2, e_lI3, e_lR3, e_st3, e_lI4, e_lR4, e_st4, e_lI5, e_lR5, e_st5, e_lI6, e_lR6, e_st6, e_lI7, e_lR7, e_st7, e_lI8, e_lR8, e_st8, e_swn, e_swc, e_sw0, e_sw1, e_sw2, e_sw3, e_sw4, e_sw5, e_sw6, e_sw7, e_sw8, e_sw9, Option.toList_some, Option.toList_none, List.cons_append, List.nil_append, List.length_cons, List.length_nil, Nat.reduceAdd, Nat.reduceLeDiff, Nat.zero_le, Nat.le_refl, true_and, and_true, WP_eq, Nat.reduceSub, if_true, if_false, Nat.reduceEqDiff, not_false_eq_true, i_10, i_01, Int32.reduceLT, Int32.reduceLE, true_or, or_true, ne_eq, fk_2 hk, fk_8 hk, fk_11 hk, fk_20 hk, fk_29 hk, fr_6_11_4 hr, fk_16 hk, fl_16 hl, en_18, c_19, k18_0, k18_1, k18_10, k18_11, k18_14, k18_15, k18_16, k18_18, k18_21, k18_22, k18_25, k18_26, k18_27, k18_30, k18_31, k18_34, k18_35, k18_38, k18_39, k18_4, k18_40, k18_41, k18_42, k18_43, k18_44, k18_47, k18_48, k18_49, k18_5, k18_55, k18_8, k18_9, s_aload_n, s_goto, s_iadd, s_iaload20, s_iastore, s_iconst, s_if_le, s_if_lt, s_iinc, s_iload_n, s_istore_n, s_isub, s_return, sg_6_4, sg_6_8, c1, u1, q3, q4, e1, q5, q6, hg, hm]
  rw [k18_52, s_goto]
  exact hQ
set_option maxRecDepth 100000 in
set_option maxHeartbeats 4000000 in
theorem lp_sums {d V N M u : Nat} {hp vp vn : Nat → Nat} {n : Nat} {kd ln : Nat → Nat} {iv0 : Nat → Nat → Nat → Int32} {rv : Nat → Nat → Nat → Nat} {Q : Rt} {bc bs : Nat} (hk : FixK kd) (hl : FixL ln) (hr : FixR rv) (hN6 : N ≤ 6) (hu6 : u ≤ 6) (hM : iv0 6 11 9 = nI M) (hM4 : M ≤ 4) (h13 : ∀ k, k < N → iv0 20 13 k = nI (hp k) ∧ hp k < 100) (h18 : ∀ i, i < M → iv0 20 18 i = nI (vp (vn i)) ∧ vp (vn i) < 100)
    (hQ : ∀ iv', SL iv0 iv' → (∀ a, a ≤ N → iv' 20 16 a = nI (lfv (fun k v => dst (hp k) (vp v)) vn M u N a)) → Q none ((n, kd, ln), iv', rv)) :
    ∀ kk x iv, kk ≤ N → x = nI kk - 1 → SL iv0 iv → (∀ a, kk ≤ a → a ≤ N → iv 20 16 a = nI (lfv (fun k v => dst (hp k) (vp v)) vn M u N a)) → WPc (MW (d + 2)) 18 Q 17 [some (.inr 11), some (.inl (nI u)), some (.inl x)] [] ((n, kd, ln), iv, rv) bc bs := by
  intro kk
  induction kk with
  | zero =>
    intro x iv hkk hx hF hA
    have c1 : x < 0 := by rw [hx]; exact pk_sneg (a := 0) (b := 1) (by decide) (by decide)
    refine Eq.mpr (lp_sums_z hk hl hr c1) ?_
    exact hQ iv hF (fun a ha => hA a (by omega) ha)
  | succ j ih =>
    intro x iv hkk hx hF hA
    rw [nI_pred] at hx
    subst hx
    have fM : iv 6 11 9 = nI M := by rw [hF.1 6 (by decide)]; exact hM
    have f13 : iv 20 13 j = nI (hp j) := by rw [hF.2 13 (by decide)]; exact (h13 j (by omega)).1
    have f18 : ∀ i, i < M → iv 20 18 i = nI (vp (vn i)) ∧ vp (vn i) < 100 := fun i hi => ⟨by rw [hF.2 18 (by decide)]; exact (h18 i hi).1, (h18 i hi).2⟩
    have fin : ∀ v, v = nI (lfv (fun k v => dst (hp k) (vp v)) vn M u N j) → WPc (MW (d + 2)) 18 Q 17 [some (.inr 11), some (.inl (nI u)), some (.inl (nI j + (-1)))] [] ((n, kd, ln), u3 iv 20 16 j v, rv) bc bs := fun v hv => by
      refine ih _ _ (by omega) i_sm ⟨fun K k1 => by rw [u3_c k1]; exact hF.1 K k1, fun a a1 => by rw [u3_a a1]; exact hF.2 a a1⟩ (fun a a1 a2 => ?_)
      by_cases e : a = j
      · subst e; rw [u3_s, hv]
      · rw [u3_j e]; exact hA a (by omega) a2
    by_cases hu : 0 < u
    · refine lp_sums_u hk hl hr (by omega) hu hu6 ?_
      refine fin 0 ?_
      unfold lfv
      rw [if_pos hu]
      rfl
    · obtain rfl : u = 0 := by omega
      have g := hA (j + 1) (by omega) (by omega)
      refine lp_sums_v (m := mW (fun k v => dst (hp k) (vp v)) vn j M) hk hl hr (by omega) g (fun Q => L_least (V := V) hk hl hr (show j < 6 by omega) fM hM4 f13 (h13 j (by omega)).2 f18) ?_
      refine fin _ ?_
      rw [nI_add]
      congr 1
      unfold lfv
      rw [if_neg hu, if_neg hu]
      have h1 := sumR_s (f := fun k => mW (fun k v => dst (hp k) (vp v)) vn k M) (n := j)
      have h2 := sumR_le (f := fun k => mW (fun k v => dst (hp k) (vp v)) vn k M) N (show j + 1 ≤ N by omega)
      omega
theorem max_u {a b : Nat} (ha : a < 1000) (hb : b < 1000) : (if 0 < nI a - nI b then nI a - nI b else 0) = nI (a - b) := by
  have e1 := nI_toInt (show a < 2 ^ 31 by omega)
  have e2 := nI_toInt (show b < 2 ^ 31 by omega)
  have e3 : (nI a - nI b).toInt = (a : Int) - b := by rw [i_subI (by omega) (by omega), e1, e2]
  have e0 : (0 : Int32).toInt = 0 := rfl
  rcases Nat.lt_or_ge b a with h | h
  · rw [if_pos (by rw [Int32.lt_iff_toInt_lt, e3, e0]; omega), pk_sub (by omega)]
  · rw [if_neg (by rw [Int32.lt_iff_toInt_lt, e3, e0]; omega), show a - b = 0 by omega]
    rfl
set_option maxRecDepth 100000 in
set_option maxHeartbeats 4000000 in
theorem lp_rooms {d M : Nat} {mv : Nat → Nat} {n : Nat} {kd ln : Nat → Nat} {iv : Nat → Nat → Nat → Int32} {rv : Nat → Nat → Nat → Nat} {Q : Rt} {bc bs : Nat} (hk : FixK kd) (hl : FixL ln) (hr : FixR rv) (hM : iv 6 11 9 = nI M) (hM4 : M ≤ 4) (h19 : ∀ i, i < M → iv 20 19 i = nI (mv i)) :
    ∀ j i, i + j = M → WPc (MW d) 16 Q 13 [some (.inr 11), some (.inl (nI (sumR mv i))), some (.inl (nI i))] [] ((n, kd, ln), iv, rv) bc bs = WPc (MW d) 16 Q 36 [some (.inr 11), some (.inl (nI (sumR mv M))), some (.inl (nI M))] [] ((n, kd, ln), iv, rv) bc bs := by
  intro j
  induction j with
  | zero =>
    intro i hi
    obtain rfl : i = M := by omega
    rw [WP_eq (pc := 13), k16_13]
    simp only [e_lI0, e_lR0, e_st0, e_lI1, e_lR1, e_st1, e_lI2, e_lR2, e_st2, e_lI3, e_lR3, e_st3, e_lI4, e_lR4, e_st4, e_lI5, e_lR5, e_st5, e_lI6, e_lR6, e_st6, e_lI7, e_lR7, e_st7, e_lI8, e_lR8, e_st8, e_swn, e_swc, e_sw0, e_sw1, e_sw2, e_sw3, e_sw4, e_sw5, e_sw6, e_sw7, e_sw8, e_sw9, Option.toList_some, Option.toList_none, List.cons_append, List.nil_append, List.length_cons, List.length_nil, Nat.reduceAdd, Nat.reduceLeDiff, Nat.zero_le, Nat.le_refl, true_and, and_true, WP_eq, Nat.reduceSub, if_true, if_false, Nat.reduceEqDiff, not_false_eq_true, i_10, i_01, Int32.reduceLT, Int32.reduceLE, true_or, or_true, ne_eq, fk_2 hk, fk_8 hk, fk_11 hk, fk_20 hk, fk_29 hk, fr_6_11_7 hr, fk_19 hk, fl_19 hl, en_16, c_18, c_22, k16_0, k16_1, k16_10, k16_11, k16_12, k16_14, k16_15, k16_18, k16_21, k16_22, k16_23, k16_26, k16_27, k16_28, k16_29, k16_30, k16_33, k16_37, k16_38, k16_4, k16_41, k16_42, k16_46, k16_47, k16_48, k16_49, k16_52, k16_53, k16_54, k16_55, k16_56, k16_59, k16_60, k16_7, k16_8, k16_9, r_16, s_aload_n, s_goto, s_iadd, s_iaload20, s_icmp_ge, s_iconst, s_if_ne, s_iinc, s_iload_n, s_istore_n, s_isub, sg_6_7, sg_6_8, sg_6_9, hM, nI_self_le]
  | succ j ih =>
    intro i hi
    have hiM : i < M := by omega
    have c1 : ¬ nI M ≤ nI i := nI_ge hiM (by omega)
    have q3 : vp_in (nI i) 4 := vp_in_nI (by omega) (by decide)
    have q4 : (nI i).toNatClampNeg = i := nI_clamp (by omega)
    have g := h19 i hiM
    rw [← ih (i + 1) (by omega), WP_eq (pc := 13), k16_13, WP_eq (pc := 13)]
    simp only [e_lI0, e_lR0, e_st0, e_lI1, e_lR1, e_st1, e_lI2, e_lR2, e_st2, e_lI3, e_lR3, e_st3, e_lI4, e_lR4, e_st4, e_lI5, e_lR5, e_st5, e_lI6, e_lR6, e_st6, e_lI7, e_lR7, e_st7, e_lI8, e_lR8, e_st8, e_swn, e_swc, e_sw0, e_sw1, e_sw2, e_sw3, e_sw4, e_sw5, e_sw6, e_sw7, e_sw8, e_sw9, Option.toList_some, Option.toList_none, List.cons_append, List.nil_append, List.length_cons, List.length_nil, Nat.reduceAdd, Nat.reduceLeDiff, Nat.zero_le, Nat.le_refl, true_and, and_true, WP_eq, Nat.reduceSub, if_true, if_false, Nat.reduceEqDiff, not_false_eq_true, i_10, i_01, Int32.reduceLT, Int32.reduceLE, true_or, or_true, ne_eq, fk_2 hk, fk_8 hk, fk_11 hk, fk_20 hk, fk_29 hk, fr_6_11_7 hr, fk_19 hk, fl_19 hl, en_16, c_18, c_22, k16_0, k16_1, k16_10, k16_11, k16_12, k16_14, k16_15, k16_18, k16_21, k16_22, k16_23, k16_26, k16_27, k16_28, k16_29, k16_30, k16_33, k16_37, k16_38, k16_4, k16_41, k16_42, k16_46, k16_47, k16_48, k16_49, k16_52, k16_53, k16_54, k16_55, k16_56, k16_59, k16_60, k16_7, k16_8, k16_9, r_16, s_aload_n, s_goto, s_iadd, s_iaload20, s_icmp_ge, s_iconst, s_if_ne, s_iinc, s_iload_n, s_istore_n, s_isub, sg_6_7, sg_6_8, sg_6_9, hM, c1, q3, q4, g]
    rw [nI_1, nI_add, sumR_s]
/-- all that a search leaves as it was -/
def CQ (iv0 iv : Nat → Nat → Nat → Int32) : Prop := (∀ K, K ≠ 6 → K ≠ 20 → iv K = iv0 K) ∧ (∀ a, a ≠ 14 → a ≠ 15 → a ≠ 16 → a ≠ 19 → iv 20 a = iv0 20 a) ∧ (∀ j, j ≠ 10 → iv 6 11 j = iv0 6 11 j)
set_option maxRecDepth 100000 in
set_option maxHeartbeats 4000000 in
theorem L_findBest {d V N M : Nat} {vw : Fn} {w : Int32} {many hp vp vn : Nat → Nat} {n : Nat} {kd ln : Nat → Nat} {iv0 : Nat → Nat → Nat → Int32} {rv : Nat → Nat → Nat → Nat} {Q : Rt} (hk : FixK kd) (hl : FixL ln) (hr : FixR rv) (hN : iv0 6 11 8 = nI N) (hM : iv0 6 11 9 = nI M) (hN6 : N ≤ 6) (hN0 : 0 < N) (hM4 : M ≤ 4) (hV4 : V ≤ 4) (hb : iv0 6 11 10 = 600) (hVN : VN V vw w M vn) (hm8 : ∀ v, v < V → many v ≤ 8) (hvp : ∀ v, v < V → vp v < 100) (h17 : ∀ i, i < M → iv0 20 17 i = nI (vn i) ∧ iv0 20 18 i = nI (vp (vn i)) ∧ iv0 20 19 i = nI (many (vn i))) (h13 : ∀ k, k < N → iv0 20 13 k = nI (hp k) ∧ hp k < 100) (hR : sumR (fun i => many (vn i)) M = rms vw w many V)
    (hQ : ∀ iv' bs, CQ iv0 iv' → iv' 6 11 10 = nI bs → BI V vw w many (fun k v => dst (hp k) (vp v)) (N - rms vw w many V) N (iv' 20 15) bs ((V + 1) ^ N) → Q (some (.inl 1)) ((n, kd, ln), iv', rv)) : MW (d + 13) 16 [.inr 11] ((n, kd, ln), iv0, rv) Q := by
  have c0 : ¬ nI N = 0 := nI_ne0 hN0 (by omega)
  have hR8 : sumR (fun i => many (vn i)) M ≤ 8 * M := sumR_bd M (fun i hi => hm8 _ (hVN.1 i hi).1)
  have q3 : vp_in (nI N) 7 := vp_in_nI (by omega) (by decide)
  have q4 : (nI N).toNatClampNeg = N := nI_clamp (by omega)
  simp only [e_lI0, e_lR0, e_st0, e_lI1, e_lR1, e_st1, e_lI2, e_lR2, e_st2, e_lI3, e_lR3, e_st3, e_lI4, e_lR4, e_st4, e_lI5, e_lR5, e_st5, e_lI6, e_lR6, e_st6, e_lI7, e_lR7, e_st7, e_lI8, e_lR8, e_st8, e_swn, e_swc, e_sw0, e_sw1, e_sw2, e_sw3, e_sw4, e_sw5, e_sw6, e_sw7, e_sw8, e_sw9, Option.toList_some, Option.toList_none, List.cons_append, List.nil_append, List.length_cons, List.length_nil, Nat.reduceAdd, Nat.reduceLeDiff, Nat.zero_le, Nat.le_refl, true_and, and_true, WP_eq, Nat.reduceSub, if_true, if_false, Nat.reduceEqDiff, not_false_eq_true, i_10, i_01, Int32.reduceLT, Int32.reduceLE, true_or, or_true, ne_eq, fk_2 hk, fk_8 hk, fk_11 hk, fk_20 hk, fk_29 hk, fr_6_11_7 hr, fk_19 hk, fl_19 hl, en_16, c_18, c_22, k16_0, k16_1, k16_10, k16_11, k16_12, k16_14, k16_15, k16_18, k16_21, k16_22, k16_23, k16_26, k16_27, k16_28, k16_29, k16_30, k16_33, k16_37, k16_38, k16_4, k16_41, k16_42, k16_46, k16_47, k16_48, k16_49, k16_52, k16_53, k16_54, k16_55, k16_56, k16_59, k16_60, k16_7, k16_8, k16_9, r_16, s_aload_n, s_goto, s_iadd, s_iaload20, s_icmp_ge, s_iconst, s_if_ne, s_iinc, s_iload_n, s_istore_n, s_isub, sg_6_7, sg_6_8, sg_6_9, hN, c0]
  rw [← WP_eq]
  refine Eq.mpr (lp_rooms (d := d + 12) (mv := fun i => many (vn i)) hk hl hr hM hM4 (fun i hi => (h17 i hi).2.2) M 0 (by omega)) ?_
  rw [WP_eq, k16_36, hR]
  rw [hR] at hR8
  simp only [e_lI0, e_lR0, e_st0, e_lI1, e_lR1, e_st1, e_lI2, e_lR2, e_st2, e_lI3, e_lR3, e_st3, e_lI4, e_lR4, e_st4, e_lI5, e_lR5, e_st5, e_lI6, e_lR6, e_st6, e_lI7, e_lR7, e_st7, e_lI8, e_lR8, e_st8, e_swn, e_swc, e_sw0, e_sw1, e_sw2, e_sw3, e_sw4, e_sw5, e_sw6, e_sw7, e_sw8, e_sw9, Option.toList_some, Option.toList_none, List.cons_append, List.nil_append, List.length_cons, List.length_nil, Nat.reduceAdd, Nat.reduceLeDiff, Nat.zero_le, Nat.le_refl, true_and, and_true, WP_eq, Nat.reduceSub, if_true, if_false, Nat.reduceEqDiff, not_false_eq_true, i_10, i_01, Int32.reduceLT, Int32.reduceLE, true_or, or_true, ne_eq, fk_2 hk, fk_8 hk, fk_11 hk, fk_20 hk, fk_29 hk, fr_6_11_7 hr, fk_19 hk, fl_19 hl, en_16, c_18, c_22, k16_0, k16_1, k16_10, k16_11, k16_12, k16_14, k16_15, k16_18, k16_21, k16_22, k16_23, k16_26, k16_27, k16_28, k16_29, k16_30, k16_33, k16_37, k16_38, k16_4, k16_41, k16_42, k16_46, k16_47, k16_48, k16_49, k16_52, k16_53, k16_54, k16_55, k16_56, k16_59, k16_60, k16_7, k16_8, k16_9, r_16, s_aload_n, s_goto, s_iadd, s_iaload20, s_icmp_ge, s_iconst, s_if_ne, s_iinc, s_iload_n, s_istore_n, s_isub, sg_6_7, sg_6_8, sg_6_9, hN]
  rw [k16_43, s_maxp, max_u (by omega) (by omega)]
  obtain ⟨u, hu⟩ : ∃ u, u = N - rms vw w many V := ⟨_, rfl⟩
  rw [← hu] at hQ ⊢
  have hu6 : u ≤ 6 := by omega
  have e18 : MW (d + 12) 18 [.inr 11, .inl (nI u)] ((n, kd, ln), iv0, rv) (fun v h' => v = none ∧ ∃ iv1, h' = ((n, kd, ln), iv1, rv) ∧ SL iv0 iv1 ∧ (∀ a, a ≤ N → iv1 20 16 a = nI (lfv (fun k v => dst (hp k) (vp v)) vn M u N a))) := by
    simp only [e_lI0, e_lR0, e_st0, e_lI1, e_lR1, e_st1, e_lI2, e_lR2, e_st2, e_lI3, e_lR3, e_st3, e_lI4, e_lR4, e_st4, e_lI5, e_lR5, e_st5, e_lI6, e_lR6, e_st6, e_lI7, e_lR7, e_st7, e_lI8, e_lR8, e_st8, e_swn, e_swc, e_sw0, e_sw1, e_sw2, e_sw3, e_sw4, e_sw5, e_sw6, e_sw7, e_sw8, e_sw9, Option.toList_some, Option.toList_none, List.cons_append, List.nil_append, List.length_cons, List.length_nil, Nat.reduceAdd, Nat.reduceLeDiff, Nat.zero_le, Nat.le_refl, true_and, and_true, WP_eq, Nat.reduceSub, if_true, if_false, Nat.reduceEqDiff, not_false_eq_true, i_10, i_01, Int32.reduceLT, Int32.reduceLE, true_or, or_true, ne_eq, fk_2 hk, fk_8 hk, fk_11 hk, fk_20 hk, fk_29 hk, fr_6_11_4 hr, fk_16 hk, fl_16 hl, en_18, c_19, k18_0, k18_1, k18_10, k18_11, k18_14, k18_15, k18_16, k18_18, k18_21, k18_22, k18_25, k18_26, k18_27, k18_30, k18_31, k18_34, k18_35, k18_38, k18_39, k18_4, k18_40, k18_41, k18_42, k18_43, k18_44, k18_47, k18_48, k18_49, k18_5, k18_55, k18_8, k18_9, s_aload_n, s_goto, s_iadd, s_iaload20, s_iastore, s_iconst, s_if_le, s_if_lt, s_iinc, s_iload_n, s_istore_n, s_isub, s_return, sg_6_4, sg_6_8, hN, q3, q4, Nat.add_left_cancel_iff, u3_d, eq_self, false_and, and_false, and_self, if_true, if_false, Nat.reduceEqDiff]
    rw [← WP_eq]
    refine lp_sums (d := d + 9) (V := V) (iv0 := iv0) (N := N) (M := M) (u := u) (hp := hp) (vp := vp) (vn := vn) hk hl hr hN6 hu6 hM hM4 h13 (fun i hi => ⟨(h17 i hi).2.1, hvp _ (hVN.1 i hi).1⟩) (fun iv' h1 h2 => ⟨rfl, iv', rfl, h1, h2⟩) N _ _ (Nat.le_refl _) rfl ⟨fun K k1 => by rw [u3_c k1], fun a a1 => by rw [u3_a a1]⟩ (fun a a1 a2 => ?_)
    obtain rfl : a = N := by omega
    rw [u3_s]
    unfold lfv
    by_cases h : 0 < u
    · rw [if_pos h]; rfl
    · rw [if_neg h, Nat.sub_self]; rfl
  simp only [e_lI0, e_lR0, e_st0, e_lI1, e_lR1, e_st1, e_lI2, e_lR2, e_st2, e_lI3, e_lR3, e_st3, e_lI4, e_lR4, e_st4, e_lI5, e_lR5, e_st5, e_lI6, e_lR6, e_st6, e_lI7, e_lR7, e_st7, e_lI8, e_lR8, e_st8, e_swn, e_swc, e_sw0, e_sw1, e_sw2, e_sw3, e_sw4, e_sw5, e_sw6, e_sw7, e_sw8, e_sw9, Option.toList_some, Option.toList_none, List.cons_append, List.nil_append, List.length_cons, List.length_nil, Nat.reduceAdd, Nat.reduceLeDiff, Nat.zero_le, Nat.le_refl, true_and, and_true, WP_eq, Nat.reduceSub, if_true, if_false, Nat.reduceEqDiff, not_false_eq_true, i_10, i_01, Int32.reduceLT, Int32.reduceLE, true_or, or_true, ne_eq, fk_2 hk, fk_8 hk, fk_11 hk, fk_20 hk, fk_29 hk, fr_6_11_7 hr, fk_19 hk, fl_19 hl, en_16, c_18, c_22, k16_0, k16_1, k16_10, k16_11, k16_12, k16_14, k16_15, k16_18, k16_21, k16_22, k16_23, k16_26, k16_27, k16_28, k16_29, k16_30, k16_33, k16_37, k16_38, k16_4, k16_41, k16_42, k16_46, k16_47, k16_48, k16_49, k16_52, k16_53, k16_54, k16_55, k16_56, k16_59, k16_60, k16_7, k16_8, k16_9, r_16, s_aload_n, s_goto, s_iadd, s_iaload20, s_icmp_ge, s_iconst, s_if_ne, s_iinc, s_iload_n, s_istore_n, s_isub, sg_6_7, sg_6_8, sg_6_9]
  refine MW_ceM (d + 12) _ _ _ _ _ ?_ e18
  rintro v h' ⟨rfl, iv1, rfl, hF, h16⟩
  simp only [e_lI0, e_lR0, e_st0, e_lI1, e_lR1, e_st1, e_lI2, e_lR2, e_st2, e_lI3, e_lR3, e_st3, e_lI4, e_lR4, e_st4, e_lI5, e_lR5, e_st5, e_lI6, e_lR6, e_st6, e_lI7, e_lR7, e_st7, e_lI8, e_lR8, e_st8, e_swn, e_swc, e_sw0, e_sw1, e_sw2, e_sw3, e_sw4, e_sw5, e_sw6, e_sw7, e_sw8, e_sw9, Option.toList_some, Option.toList_none, List.cons_append, List.nil_append, List.length_cons, List.length_nil, Nat.reduceAdd, Nat.reduceLeDiff, Nat.zero_le, Nat.le_refl, true_and, and_true, WP_eq, Nat.reduceSub, if_true, if_false, Nat.reduceEqDiff, not_false_eq_true, i_10, i_01, Int32.reduceLT, Int32.reduceLE, true_or, or_true, ne_eq, fk_2 hk, fk_8 hk, fk_11 hk, fk_20 hk, fk_29 hk, fr_6_11_7 hr, fk_19 hk, fl_19 hl, en_16, c_18, c_22, k16_0, k16_1, k16_10, k16_11, k16_12, k16_14, k16_15, k16_18, k16_21, k16_22, k16_23, k16_26, k16_27, k16_28, k16_29, k16_30, k16_33, k16_37, k16_38, k16_4, k16_41, k16_42, k16_46, k16_47, k16_48, k16_49, k16_52, k16_53, k16_54, k16_55, k16_56, k16_59, k16_60, k16_7, k16_8, k16_9, r_16, s_aload_n, s_goto, s_iadd, s_iaload20, s_icmp_ge, s_iconst, s_if_ne, s_iinc, s_iload_n, s_istore_n, s_isub, sg_6_7, sg_6_8, sg_6_9]
  have hS : SF V vw w many hp vp u N M vn iv1 := by
    have f6 : iv1 6 = iv0 6 := hF.1 6 (by decide)
    refine ⟨⟨by rw [f6]; exact hN, by rw [f6]; exact hM, hN6, hM4, hV4, hu6⟩, hVN, hm8, fun i hi => ?_, hvp, fun k hk' => ?_, h16⟩
    · rw [hF.2 17 (by decide), hF.2 18 (by decide)]
      exact ⟨(h17 i hi).1, (h17 i hi).2.1⟩
    · rw [hF.2 13 (by decide)]
      exact h13 k hk'
  have e22 := M_try (d := d + 10 - N) (n := n) hk hl hr hS N 0 0 iv1 (fun v h' => stp (MW (d + 12)) (WP (d + 12) 16 Q) Q (mR 16) (some (.iconst 1, 1, 0, 0, 1)) 59 [some (.inr 11), some (.inl (nI (rms vw w many V))), some (.inl (nI u))] (v.toList ++ []) h' 0 0) (by omega) ⟨⟨fun k hk' => by omega, fun v hv => Nat.zero_le _⟩, Nat.zero_le _⟩ ⟨⟨fun _ _ _ => rfl, fun _ _ _ _ => rfl, fun _ _ => rfl⟩, fun i hi => ?_, fun k hk' => by omega, 600, ?_, ⟨Nat.le_refl _, fun c hc => by omega, Or.inl rfl⟩⟩ (fun iv' hT => ?_)
  · rw [show d + 10 - N + N + 2 = d + 12 by omega] at e22
    exact e22
  · rw [hF.2 19 (by decide), (h17 i hi).2.2]
    rfl
  · rw [hF.1 6 (by decide)]; exact hb
  · obtain ⟨hF', -, -, bs, hb1, hB⟩ := hT
    simp only [e_lI0, e_lR0, e_st0, e_lI1, e_lR1, e_st1, e_lI2, e_lR2, e_st2, e_lI3, e_lR3, e_st3, e_lI4, e_lR4, e_st4, e_lI5, e_lR5, e_st5, e_lI6, e_lR6, e_st6, e_lI7, e_lR7, e_st7, e_lI8, e_lR8, e_st8, e_swn, e_swc, e_sw0, e_sw1, e_sw2, e_sw3, e_sw4, e_sw5, e_sw6, e_sw7, e_sw8, e_sw9, Option.toList_some, Option.toList_none, List.cons_append, List.nil_append, List.length_cons, List.length_nil, Nat.reduceAdd, Nat.reduceLeDiff, Nat.zero_le, Nat.le_refl, true_and, and_true, WP_eq, Nat.reduceSub, if_true, if_false, Nat.reduceEqDiff, not_false_eq_true, i_10, i_01, Int32.reduceLT, Int32.reduceLE, true_or, or_true, ne_eq, fk_2 hk, fk_8 hk, fk_11 hk, fk_20 hk, fk_29 hk, fr_6_11_7 hr, fk_19 hk, fl_19 hl, en_16, c_18, c_22, k16_0, k16_1, k16_10, k16_11, k16_12, k16_14, k16_15, k16_18, k16_21, k16_22, k16_23, k16_26, k16_27, k16_28, k16_29, k16_30, k16_33, k16_37, k16_38, k16_4, k16_41, k16_42, k16_46, k16_47, k16_48, k16_49, k16_52, k16_53, k16_54, k16_55, k16_56, k16_59, k16_60, k16_7, k16_8, k16_9, r_16, s_aload_n, s_goto, s_iadd, s_iaload20, s_icmp_ge, s_iconst, s_if_ne, s_iinc, s_iload_n, s_istore_n, s_isub, sg_6_7, sg_6_8, sg_6_9]
    refine hQ iv' bs ⟨fun K k1 k2 => ?_, fun a a1 a2 a3 a4 => ?_, fun j j1 => ?_⟩ hb1 ?_
    · rw [hF'.1 K k1 k2, hF.1 K k2]
    · rw [hF'.2.1 a a1 a2 a4, hF.2 a a3]
    · rw [hF'.2.2 j j1, hF.1 6 (by decide)]
    · rw [Nat.zero_add, Nat.one_mul] at hB; exact hB
