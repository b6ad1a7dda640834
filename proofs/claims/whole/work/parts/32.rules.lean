/-- the rule in force: the number of the passed one, if there is one -/
def pick (rw_ : Fn) (t : Int32) : Nat → Option Nat
  | 0 => none
  | k + 1 => if rw_ k ≤ t then (match pick rw_ t k with
    | none => some k
    | some b => if rw_ b ≤ rw_ k then some k else some b) else pick rw_ t k
theorem pick_lt {rw_ : Fn} {t : Int32} : ∀ k b, pick rw_ t k = some b → b < k
  | 0, b, h => by cases h
  | k + 1, b, h => by
    unfold pick at h
    by_cases c1 : rw_ k ≤ t
    · rw [if_pos c1] at h
      cases hp : pick rw_ t k with
      | none => rw [hp] at h; cases h; omega
      | some q =>
        rw [hp] at h
        dsimp only at h
        by_cases c2 : rw_ q ≤ rw_ k
        · rw [if_pos c2] at h; cases h; omega
        · rw [if_neg c2] at h; cases h
          have := pick_lt k b hp
          omega
    · rw [if_neg c1] at h
      have := pick_lt k b h
      omega
def ruA (ra : Nat → Nat) (o : Option Nat) : Nat := match o with
  | none => 10
  | some b => ra b
def ruW (ru : Fn) (o : Option Nat) : Int32 := match o with
  | none => 110010
  | some b => ru b
def ruB (o : Option Nat) : Int32 := match o with
  | none => -1
  | some b => nI b
set_option maxRecDepth 100000 in
set_option maxHeartbeats 4000000 in
theorem lp_inForce {d P : Nat} {t : Int32} {op ow ou : Int32} {pr : Nat} {n : Nat} {kd ln : Nat → Nat} {iv : Nat → Nat → Nat → Int32} {rv : Nat → Nat → Nat → Nat} {Q : Rt} {bc bs : Nat} (hk : FixK kd) (hl : FixL ln) (hr : FixR rv) (hP : iv 8 8 2 = nI P) (h4 : CRule P kd (rv 37 9) pr (iv 7) (iv 20 46) (iv 20 47) op ow ou) :
    ∀ k i (l4 : LV), i + k = P → WPc (MW d) 30 Q 7 [some (.inr 8), some (.inl t), some (.inr (ruA (rv 37 9) (pick (iv 20 46) t i))), some (.inl (nI i)), l4] [] ((n, kd, ln), iv, rv) bc bs = Q (some (.inr (ruA (rv 37 9) (pick (iv 20 46) t P)))) ((n, kd, ln), iv, rv) := by
  have hP4 := h4.1
  intro k
  induction k with
  | zero =>
    intro i l4 hi
    obtain rfl : i = P := by omega
    rw [WP_eq, k30_7]
    simp only [e_lI0, e_lR0, e_st0, e_lI1, e_lR1, e_st1, e_lI2, e_lR2, e_st2, e_lI3, e_lR3, e_st3, e_lI4, e_lR4, e_st4, e_lI5, e_lR5, e_st5, e_lI6, e_lR6, e_st6, e_lI7, e_lR7, e_st7, e_lI8, e_lR8, e_st8, e_swn, e_swc, e_sw0, e_sw1, e_sw2, e_sw3, e_sw4, e_sw5, e_sw6, e_sw7, e_sw8, e_sw9, Option.toList_some, Option.toList_none, List.cons_append, List.nil_append, List.length_cons, List.length_nil, Nat.reduceAdd, Nat.reduceLeDiff, Nat.zero_le, Nat.le_refl, true_and, and_true, WP_eq, Nat.reduceSub, if_true, if_false, Nat.reduceEqDiff, not_false_eq_true, i_10, i_01, Int32.reduceLT, Int32.reduceLE, true_or, or_true, ne_eq, fk_2 hk, fk_8 hk, fk_11 hk, fk_20 hk, fk_29 hk, fr_8_8_1 hr, fk_10 hk, fr_8_8_0 hr, fk_9 hk, fl_9 hl, en_30, k30_0, k30_1, k30_12, k30_15, k30_16, k30_19, k30_20, k30_21, k30_23, k30_25, k30_28, k30_29, k30_32, k30_34, k30_37, k30_38, k30_4, k30_41, k30_44, k30_46, k30_47, k30_5, k30_50, k30_53, k30_54, k30_6, k30_8, k30_9, s_aaload, s_aload, s_aload_n, s_areturn, s_astore, s_astore_n, s_goto, s_icmp_ge, s_icmp_gt, s_icmp_lt, s_iconst, s_iinc, s_iload_n, s_istore_n, sg_7_0, sg_8_0, sg_8_1, sg_8_2, hP, nI_self_le]
  | succ k ih =>
    intro i l4 hi
    have hiP : i < P := by omega
    have c1 : ¬ nI P ≤ nI i := nI_ge (show i < P by omega) (by omega)
    have hin : vp_in (nI i) 40 := vp_in_nI (by omega) (by decide)
    have hcl : (nI i).toNatClampNeg = i := nI_clamp (by omega)
    obtain ⟨hkd, ⟨r0, -⟩, hge⟩ := h4.2.1 i hiP
    rw [WP_eq, k30_7]
    have hfk : kd (ruA (rv 37 9) (pick (iv 20 46) t i)) = 7 := by
      cases hp : pick (iv 20 46) t i with
      | none => exact fk_10 hk
      | some b => exact (h4.2.1 b (by have := pick_lt i b hp; omega)).1
    have hstep : pick (iv 20 46) t (i + 1) = if iv 20 46 i ≤ t then (match pick (iv 20 46) t i with | none => some i | some b => if iv 20 46 b ≤ iv 20 46 i then some i else some b) else pick (iv 20 46) t i := rfl
    by_cases c2 : iv 20 46 i ≤ t
    · rw [if_pos c2] at hstep
      cases hp : pick (iv 20 46) t i with
      | none =>
        rw [hp] at hstep hfk
        have e0 : iv 7 (ruA (rv 37 9) none) 0 = 0 := h4.2.2.1.1
        simp only [e_lI0, e_lR0, e_st0, e_lI1, e_lR1, e_st1, e_lI2, e_lR2, e_st2, e_lI3, e_lR3, e_st3, e_lI4, e_lR4, e_st4, e_lI5, e_lR5, e_st5, e_lI6, e_lR6, e_st6, e_lI7, e_lR7, e_st7, e_lI8, e_lR8, e_st8, e_swn, e_swc, e_sw0, e_sw1, e_sw2, e_sw3, e_sw4, e_sw5, e_sw6, e_sw7, e_sw8, e_sw9, Option.toList_some, Option.toList_none, List.cons_append, List.nil_append, List.length_cons, List.length_nil, Nat.reduceAdd, Nat.reduceLeDiff, Nat.zero_le, Nat.le_refl, true_and, and_true, WP_eq, Nat.reduceSub, if_true, if_false, Nat.reduceEqDiff, not_false_eq_true, i_10, i_01, Int32.reduceLT, Int32.reduceLE, true_or, or_true, ne_eq, fk_2 hk, fk_8 hk, fk_11 hk, fk_20 hk, fk_29 hk, fr_8_8_1 hr, fk_10 hk, fr_8_8_0 hr, fk_9 hk, fl_9 hl, en_30, k30_0, k30_1, k30_12, k30_15, k30_16, k30_19, k30_20, k30_21, k30_23, k30_25, k30_28, k30_29, k30_32, k30_34, k30_37, k30_38, k30_4, k30_41, k30_44, k30_46, k30_47, k30_5, k30_50, k30_53, k30_54, k30_6, k30_8, k30_9, s_aaload, s_aload, s_aload_n, s_areturn, s_astore, s_astore_n, s_goto, s_icmp_ge, s_icmp_gt, s_icmp_lt, s_iconst, s_iinc, s_iload_n, s_istore_n, sg_7_0, sg_8_0, sg_8_1, sg_8_2, hP, c1, hin, hcl, hkd, hfk, r0, e0, c2, hge, igt, ite_not]
        rw [← WP_eq, nI_1, ← ih (i + 1) _ (by omega), hstep]
        rfl
      | some b =>
        rw [hp] at hstep hfk
        have e0 : iv 7 (ruA (rv 37 9) (some b)) 0 = iv 20 46 b := (h4.2.1 b (by have := pick_lt i b hp; omega)).2.1.1
        by_cases c3 : iv 20 46 b ≤ iv 20 46 i
        · simp only [e_lI0, e_lR0, e_st0, e_lI1, e_lR1, e_st1, e_lI2, e_lR2, e_st2, e_lI3, e_lR3, e_st3, e_lI4, e_lR4, e_st4, e_lI5, e_lR5, e_st5, e_lI6, e_lR6, e_st6, e_lI7, e_lR7, e_st7, e_lI8, e_lR8, e_st8, e_swn, e_swc, e_sw0, e_sw1, e_sw2, e_sw3, e_sw4, e_sw5, e_sw6, e_sw7, e_sw8, e_sw9, Option.toList_some, Option.toList_none, List.cons_append, List.nil_append, List.length_cons, List.length_nil, Nat.reduceAdd, Nat.reduceLeDiff, Nat.zero_le, Nat.le_refl, true_and, and_true, WP_eq, Nat.reduceSub, if_true, if_false, Nat.reduceEqDiff, not_false_eq_true, i_10, i_01, Int32.reduceLT, Int32.reduceLE, true_or, or_true, ne_eq, fk_2 hk, fk_8 hk, fk_11 hk, fk_20 hk, fk_29 hk, fr_8_8_1 hr, fk_10 hk, fr_8_8_0 hr, fk_9 hk, fl_9 hl, en_30, k30_0, k30_1, k30_12, k30_15, k30_16, k30_19, k30_20, k30_21, k30_23, k30_25, k30_28, k30_29, k30_32, k30_34, k30_37, k30_38, k30_4, k30_41, k30_44, k30_46, k30_47, k30_5, k30_50, k30_53, k30_54, k30_6, k30_8, k30_9, s_aaload, s_aload, s_aload_n, s_areturn, s_astore, s_astore_n, s_goto, s_icmp_ge, s_icmp_gt, s_icmp_lt, s_iconst, s_iinc, s_iload_n, s_istore_n, sg_7_0, sg_8_0, sg_8_1, sg_8_2, hP, c1, hin, hcl, hkd, hfk, r0, e0, c2, c3, igt, ite_not]
          rw [← WP_eq, nI_1, ← ih (i + 1) _ (by omega), hstep]
          dsimp only
          rw [if_pos c3]
          rfl
        · simp only [e_lI0, e_lR0, e_st0, e_lI1, e_lR1, e_st1, e_lI2, e_lR2, e_st2, e_lI3, e_lR3, e_st3, e_lI4, e_lR4, e_st4, e_lI5, e_lR5, e_st5, e_lI6, e_lR6, e_st6, e_lI7, e_lR7, e_st7, e_lI8, e_lR8, e_st8, e_swn, e_swc, e_sw0, e_sw1, e_sw2, e_sw3, e_sw4, e_sw5, e_sw6, e_sw7, e_sw8, e_sw9, Option.toList_some, Option.toList_none, List.cons_append, List.nil_append, List.length_cons, List.length_nil, Nat.reduceAdd, Nat.reduceLeDiff, Nat.zero_le, Nat.le_refl, true_and, and_true, WP_eq, Nat.reduceSub, if_true, if_false, Nat.reduceEqDiff, not_false_eq_true, i_10, i_01, Int32.reduceLT, Int32.reduceLE, true_or, or_true, ne_eq, fk_2 hk, fk_8 hk, fk_11 hk, fk_20 hk, fk_29 hk, fr_8_8_1 hr, fk_10 hk, fr_8_8_0 hr, fk_9 hk, fl_9 hl, en_30, k30_0, k30_1, k30_12, k30_15, k30_16, k30_19, k30_20, k30_21, k30_23, k30_25, k30_28, k30_29, k30_32, k30_34, k30_37, k30_38, k30_4, k30_41, k30_44, k30_46, k30_47, k30_5, k30_50, k30_53, k30_54, k30_6, k30_8, k30_9, s_aaload, s_aload, s_aload_n, s_areturn, s_astore, s_astore_n, s_goto, s_icmp_ge, s_icmp_gt, s_icmp_lt, s_iconst, s_iinc, s_iload_n, s_istore_n, sg_7_0, sg_8_0, sg_8_1, sg_8_2, hP, c1, hin, hcl, hkd, hfk, r0, e0, c2, c3, igt, ite_not]
          rw [← WP_eq, nI_1, ← ih (i + 1) _ (by omega), hstep]
          dsimp only
          rw [if_neg c3]
    · rw [if_neg c2] at hstep
      simp only [e_lI0, e_lR0, e_st0, e_lI1, e_lR1, e_st1, e_lI2, e_lR2, e_st2, e_lI3, e_lR3, e_st3, e_lI4, e_lR4, e_st4, e_lI5, e_lR5, e_st5, e_lI6, e_lR6, e_st6, e_lI7, e_lR7, e_st7, e_lI8, e_lR8, e_st8, e_swn, e_swc, e_sw0, e_sw1, e_sw2, e_sw3, e_sw4, e_sw5, e_sw6, e_sw7, e_sw8, e_sw9, Option.toList_some, Option.toList_none, List.cons_append, List.nil_append, List.length_cons, List.length_nil, Nat.reduceAdd, Nat.reduceLeDiff, Nat.zero_le, Nat.le_refl, true_and, and_true, WP_eq, Nat.reduceSub, if_true, if_false, Nat.reduceEqDiff, not_false_eq_true, i_10, i_01, Int32.reduceLT, Int32.reduceLE, true_or, or_true, ne_eq, fk_2 hk, fk_8 hk, fk_11 hk, fk_20 hk, fk_29 hk, fr_8_8_1 hr, fk_10 hk, fr_8_8_0 hr, fk_9 hk, fl_9 hl, en_30, k30_0, k30_1, k30_12, k30_15, k30_16, k30_19, k30_20, k30_21, k30_23, k30_25, k30_28, k30_29, k30_32, k30_34, k30_37, k30_38, k30_4, k30_41, k30_44, k30_46, k30_47, k30_5, k30_50, k30_53, k30_54, k30_6, k30_8, k30_9, s_aaload, s_aload, s_aload_n, s_areturn, s_astore, s_astore_n, s_goto, s_icmp_ge, s_icmp_gt, s_icmp_lt, s_iconst, s_iinc, s_iload_n, s_istore_n, sg_7_0, sg_8_0, sg_8_1, sg_8_2, hP, c1, hin, hcl, hkd, hfk, r0, c2, igt, ite_not]
      rw [← WP_eq, nI_1, ← ih (i + 1) _ (by omega), hstep]
set_option maxRecDepth 100000 in
set_option maxHeartbeats 4000000 in
theorem L_inForce {d P : Nat} {t : Int32} {op ow ou : Int32} {pr : Nat} {n : Nat} {kd ln : Nat → Nat} {iv : Nat → Nat → Nat → Int32} {rv : Nat → Nat → Nat → Nat} {Q : Rt} (hk : FixK kd) (hl : FixL ln) (hr : FixR rv) (hP : iv 8 8 2 = nI P) (h4 : CRule P kd (rv 37 9) pr (iv 7) (iv 20 46) (iv 20 47) op ow ou) :
    MW (d + 1) 30 [.inr 8, .inl t] ((n, kd, ln), iv, rv) Q = Q (some (.inr (ruA (rv 37 9) (pick (iv 20 46) t P)))) ((n, kd, ln), iv, rv) := by
  simp only [e_lI0, e_lR0, e_st0, e_lI1, e_lR1, e_st1, e_lI2, e_lR2, e_st2, e_lI3, e_lR3, e_st3, e_lI4, e_lR4, e_st4, e_lI5, e_lR5, e_st5, e_lI6, e_lR6, e_st6, e_lI7, e_lR7, e_st7, e_lI8, e_lR8, e_st8, e_swn, e_swc, e_sw0, e_sw1, e_sw2, e_sw3, e_sw4, e_sw5, e_sw6, e_sw7, e_sw8, e_sw9, Option.toList_some, Option.toList_none, List.cons_append, List.nil_append, List.length_cons, List.length_nil, Nat.reduceAdd, Nat.reduceLeDiff, Nat.zero_le, Nat.le_refl, true_and, and_true, WP_eq, Nat.reduceSub, if_true, if_false, Nat.reduceEqDiff, not_false_eq_true, i_10, i_01, Int32.reduceLT, Int32.reduceLE, true_or, or_true, ne_eq, fk_2 hk, fk_8 hk, fk_11 hk, fk_20 hk, fk_29 hk, fr_8_8_1 hr, fk_10 hk, fr_8_8_0 hr, fk_9 hk, fl_9 hl, en_30, k30_0, k30_1, k30_12, k30_15, k30_16, k30_19, k30_20, k30_21, k30_23, k30_25, k30_28, k30_29, k30_32, k30_34, k30_37, k30_38, k30_4, k30_41, k30_44, k30_46, k30_47, k30_5, k30_50, k30_53, k30_54, k30_6, k30_8, k30_9, s_aaload, s_aload, s_aload_n, s_areturn, s_astore, s_astore_n, s_goto, s_icmp_ge, s_icmp_gt, s_icmp_lt, s_iconst, s_iinc, s_iload_n, s_istore_n, sg_7_0, sg_8_0, sg_8_1, sg_8_2]
  rw [← WP_eq]
  exact lp_inForce hk hl hr hP h4 P 0 _ (by omega)
set_option maxRecDepth 100000 in
set_option maxHeartbeats 4000000 in
theorem lp_ruleNow {d P : Nat} {t : Int32} {n : Nat} {kd ln : Nat → Nat} {iv : Nat → Nat → Nat → Int32} {rv : Nat → Nat → Nat → Nat} {Q : Rt} {bc bs : Nat} (hk : FixK kd) (hl : FixL ln) (hr : FixR rv) (hP : iv 12 29 20 = nI P) (hP4 : P ≤ 40) (ht : iv 12 29 0 = t) :
    ∀ k i, i + k = P → WPc (MW d) 93 Q 4 [some (.inr 29), some (.inl (ruB (pick (iv 20 46) t i))), some (.inl (nI i))] [] ((n, kd, ln), iv, rv) bc bs = Q (some (.inl (ruW (iv 20 47) (pick (iv 20 46) t P)))) ((n, kd, ln), iv, rv) := by
  intro k
  induction k with
  | zero =>
    intro i hi
    obtain rfl : i = P := by omega
    rw [WP_eq, k93_4]
    cases hp : pick (iv 20 46) t i with
    | none =>
      have e1 : ruB none = -1 := rfl
      simp only [e_lI0, e_lR0, e_st0, e_lI1, e_lR1, e_st1, e_lI2, e_lR2, e_st2, e_lI3, e_lR3, e_st3, e_lI4, e_lR4, e_st4, e_lI5, e_lR5, e_st5, e_lI6, e_lR6, e_st6, e_lI7, e_lR7, e_st7, e_lI8, e_lR8, e_st8, e_swn, e_swc, e_sw0, e_sw1, e_sw2, e_sw3, e_sw4, e_sw5, e_sw6, e_sw7, e_sw8, e_sw9, Option.toList_some, Option.toList_none, List.cons_append, List.nil_append, List.length_cons, List.length_nil, Nat.reduceAdd, Nat.reduceLeDiff, Nat.zero_le, Nat.le_refl, true_and, and_true, WP_eq, Nat.reduceSub, if_true, if_false, Nat.reduceEqDiff, not_false_eq_true, i_10, i_01, Int32.reduceLT, Int32.reduceLE, true_or, or_true, ne_eq, fk_2 hk, fk_8 hk, fk_11 hk, fk_20 hk, fk_29 hk, fr_12_29_21 hr, fk_46 hk, fl_46 hl, fr_12_29_22 hr, fk_47 hk, fl_47 hl, en_93, k93_0, k93_1, k93_12, k93_13, k93_16, k93_17, k93_18, k93_19, k93_2, k93_22, k93_25, k93_26, k93_27, k93_3, k93_30, k93_31, k93_34, k93_35, k93_36, k93_37, k93_40, k93_41, k93_42, k93_45, k93_46, k93_47, k93_5, k93_50, k93_53, k93_54, k93_55, k93_58, k93_6, k93_60, k93_63, k93_64, k93_67, k93_68, k93_69, k93_9, r_93, s_aload_n, s_goto, s_iaload20, s_icmp_eq, s_icmp_ge, s_icmp_gt, s_icmp_lt, s_icmp_ne, s_iconst, s_iinc, s_iload_n, s_istore_n, s_ldc, sg_12_0, sg_12_20, sg_12_21, sg_12_22, hP, nI_self_le, e1]
      rfl
    | some b =>
      have hb := pick_lt i b hp
      have e1 : ruB (some b) = nI b := rfl
      have e2 : ¬ nI b = -1 := nI_m1 (by omega)
      have hin : vp_in (nI b) 40 := vp_in_nI (by omega) (by decide)
      have hcl : (nI b).toNatClampNeg = b := nI_clamp (by omega)
      simp only [e_lI0, e_lR0, e_st0, e_lI1, e_lR1, e_st1, e_lI2, e_lR2, e_st2, e_lI3, e_lR3, e_st3, e_lI4, e_lR4, e_st4, e_lI5, e_lR5, e_st5, e_lI6, e_lR6, e_st6, e_lI7, e_lR7, e_st7, e_lI8, e_lR8, e_st8, e_swn, e_swc, e_sw0, e_sw1, e_sw2, e_sw3, e_sw4, e_sw5, e_sw6, e_sw7, e_sw8, e_sw9, Option.toList_some, Option.toList_none, List.cons_append, List.nil_append, List.length_cons, List.length_nil, Nat.reduceAdd, Nat.reduceLeDiff, Nat.zero_le, Nat.le_refl, true_and, and_true, WP_eq, Nat.reduceSub, if_true, if_false, Nat.reduceEqDiff, not_false_eq_true, i_10, i_01, Int32.reduceLT, Int32.reduceLE, true_or, or_true, ne_eq, fk_2 hk, fk_8 hk, fk_11 hk, fk_20 hk, fk_29 hk, fr_12_29_21 hr, fk_46 hk, fl_46 hl, fr_12_29_22 hr, fk_47 hk, fl_47 hl, en_93, k93_0, k93_1, k93_12, k93_13, k93_16, k93_17, k93_18, k93_19, k93_2, k93_22, k93_25, k93_26, k93_27, k93_3, k93_30, k93_31, k93_34, k93_35, k93_36, k93_37, k93_40, k93_41, k93_42, k93_45, k93_46, k93_47, k93_5, k93_50, k93_53, k93_54, k93_55, k93_58, k93_6, k93_60, k93_63, k93_64, k93_67, k93_68, k93_69, k93_9, r_93, s_aload_n, s_goto, s_iaload20, s_icmp_eq, s_icmp_ge, s_icmp_gt, s_icmp_lt, s_icmp_ne, s_iconst, s_iinc, s_iload_n, s_istore_n, s_ldc, sg_12_0, sg_12_20, sg_12_21, sg_12_22, hP, nI_self_le, e1, e2, hin, hcl]
      rfl
  | succ k ih =>
    intro i hi
    have c1 : ¬ nI P ≤ nI i := nI_ge (show i < P by omega) (by omega)
    have hin : vp_in (nI i) 40 := vp_in_nI (by omega) (by decide)
    have hcl : (nI i).toNatClampNeg = i := nI_clamp (by omega)
    rw [WP_eq, k93_4]
    have hstep : pick (iv 20 46) t (i + 1) = if iv 20 46 i ≤ t then (match pick (iv 20 46) t i with | none => some i | some b => if iv 20 46 b ≤ iv 20 46 i then some i else some b) else pick (iv 20 46) t i := rfl
    by_cases c2 : iv 20 46 i ≤ t
    · rw [if_pos c2] at hstep
      cases hp : pick (iv 20 46) t i with
      | none =>
        rw [hp] at hstep
        have e1 : ruB none = -1 := rfl
        simp only [e_lI0, e_lR0, e_st0, e_lI1, e_lR1, e_st1, e_lI2, e_lR2, e_st2, e_lI3, e_lR3, e_st3, e_lI4, e_lR4, e_st4, e_lI5, e_lR5, e_st5, e_lI6, e_lR6, e_st6, e_lI7, e_lR7, e_st7, e_lI8, e_lR8, e_st8, e_swn, e_swc, e_sw0, e_sw1, e_sw2, e_sw3, e_sw4, e_sw5, e_sw6, e_sw7, e_sw8, e_sw9, Option.toList_some, Option.toList_none, List.cons_append, List.nil_append, List.length_cons, List.length_nil, Nat.reduceAdd, Nat.reduceLeDiff, Nat.zero_le, Nat.le_refl, true_and, and_true, WP_eq, Nat.reduceSub, if_true, if_false, Nat.reduceEqDiff, not_false_eq_true, i_10, i_01, Int32.reduceLT, Int32.reduceLE, true_or, or_true, ne_eq, fk_2 hk, fk_8 hk, fk_11 hk, fk_20 hk, fk_29 hk, fr_12_29_21 hr, fk_46 hk, fl_46 hl, fr_12_29_22 hr, fk_47 hk, fl_47 hl, en_93, k93_0, k93_1, k93_12, k93_13, k93_16, k93_17, k93_18, k93_19, k93_2, k93_22, k93_25, k93_26, k93_27, k93_3, k93_30, k93_31, k93_34, k93_35, k93_36, k93_37, k93_40, k93_41, k93_42, k93_45, k93_46, k93_47, k93_5, k93_50, k93_53, k93_54, k93_55, k93_58, k93_6, k93_60, k93_63, k93_64, k93_67, k93_68, k93_69, k93_9, r_93, s_aload_n, s_goto, s_iaload20, s_icmp_eq, s_icmp_ge, s_icmp_gt, s_icmp_lt, s_icmp_ne, s_iconst, s_iinc, s_iload_n, s_istore_n, s_ldc, sg_12_0, sg_12_20, sg_12_21, sg_12_22, hP, ht, c1, hin, hcl, e1, c2, igt, ite_not]
        rw [← WP_eq, nI_1, ← ih (i + 1) (by omega), hstep]
        rfl
      | some b =>
        rw [hp] at hstep
        have hb := pick_lt i b hp
        have e1 : ruB (some b) = nI b := rfl
        have e2 : ¬ nI b = -1 := nI_m1 (by omega)
        have hinb : vp_in (nI b) 40 := vp_in_nI (by omega) (by decide)
        have hclb : (nI b).toNatClampNeg = b := nI_clamp (by omega)
        by_cases c3 : iv 20 46 b ≤ iv 20 46 i
        · simp only [e_lI0, e_lR0, e_st0, e_lI1, e_lR1, e_st1, e_lI2, e_lR2, e_st2, e_lI3, e_lR3, e_st3, e_lI4, e_lR4, e_st4, e_lI5, e_lR5, e_st5, e_lI6, e_lR6, e_st6, e_lI7, e_lR7, e_st7, e_lI8, e_lR8, e_st8, e_swn, e_swc, e_sw0, e_sw1, e_sw2, e_sw3, e_sw4, e_sw5, e_sw6, e_sw7, e_sw8, e_sw9, Option.toList_some, Option.toList_none, List.cons_append, List.nil_append, List.length_cons, List.length_nil, Nat.reduceAdd, Nat.reduceLeDiff, Nat.zero_le, Nat.le_refl, true_and, and_true, WP_eq, Nat.reduceSub, if_true, if_false, Nat.reduceEqDiff, not_false_eq_true, i_10, i_01, Int32.reduceLT, Int32.reduceLE, true_or, or_true, ne_eq, fk_2 hk, fk_8 hk, fk_11 hk, fk_20 hk, fk_29 hk, fr_12_29_21 hr, fk_46 hk, fl_46 hl, fr_12_29_22 hr, fk_47 hk, fl_47 hl, en_93, k93_0, k93_1, k93_12, k93_13, k93_16, k93_17, k93_18, k93_19, k93_2, k93_22, k93_25, k93_26, k93_27, k93_3, k93_30, k93_31, k93_34, k93_35, k93_36, k93_37, k93_40, k93_41, k93_42, k93_45, k93_46, k93_47, k93_5, k93_50, k93_53, k93_54, k93_55, k93_58, k93_6, k93_60, k93_63, k93_64, k93_67, k93_68, k93_69, k93_9, r_93, s_aload_n, s_goto, s_iaload20, s_icmp_eq, s_icmp_ge, s_icmp_gt, s_icmp_lt, s_icmp_ne, s_iconst, s_iinc, s_iload_n, s_istore_n, s_ldc, sg_12_0, sg_12_20, sg_12_21, sg_12_22, hP, ht, c1, hin, hcl, hinb, hclb, e1, e2, c2, c3, igt, ite_not]
          rw [← WP_eq, nI_1, ← ih (i + 1) (by omega), hstep]
          dsimp only
          rw [if_pos c3]
          rfl
        · simp only [e_lI0, e_lR0, e_st0, e_lI1, e_lR1, e_st1, e_lI2, e_lR2, e_st2, e_lI3, e_lR3, e_st3, e_lI4, e_lR4, e_st4, e_lI5, e_lR5, e_st5, e_lI6, e_lR6, e_st6, e_lI7, e_lR7, e_st7, e_lI8, e_lR8, e_st8, e_swn, e_swc, e_sw0, e_sw1, e_sw2, e_sw3, e_sw4, e_sw5, e_sw6, e_sw7, e_sw8, e_sw9, Option.toList_some, Option.toList_none, List.cons_append, List.nil_append, List.length_cons, List.length_nil, Nat.reduceAdd, Nat.reduceLeDiff, Nat.zero_le, Nat.le_refl, true_and, and_true, WP_eq, Nat.reduceSub, if_true, if_false, Nat.reduceEqDiff, not_false_eq_true, i_10, i_01, Int32.reduceLT, Int32.reduceLE, true_or, or_true, ne_eq, fk_2 hk, fk_8 hk, fk_11 hk, fk_20 hk, fk_29 hk, fr_12_29_21 hr, fk_46 hk, fl_46 hl, fr_12_29_22 hr, fk_47 hk, fl_47 hl, en_93, k93_0, k93_1, k93_12, k93_13, k93_16, k93_17, k93_18, k93_19, k93_2, k93_22, k93_25, k93_26, k93_27, k93_3, k93_30, k93_31, k93_34, k93_35, k93_36, k93_37, k93_40, k93_41, k93_42, k93_45, k93_46, k93_47, k93_5, k93_50, k93_53, k93_54, k93_55, k93_58, k93_6, k93_60, k93_63, k93_64, k93_67, k93_68, k93_69, k93_9, r_93, s_aload_n, s_goto, s_iaload20, s_icmp_eq, s_icmp_ge, s_icmp_gt, s_icmp_lt, s_icmp_ne, s_iconst, s_iinc, s_iload_n, s_istore_n, s_ldc, sg_12_0, sg_12_20, sg_12_21, sg_12_22, hP, ht, c1, hin, hcl, hinb, hclb, e1, e2, c2, c3, igt, ite_not]
          rw [← WP_eq, nI_1, ← ih (i + 1) (by omega), hstep]
          dsimp only
          rw [if_neg c3]
          rfl
    · rw [if_neg c2] at hstep
      simp only [e_lI0, e_lR0, e_st0, e_lI1, e_lR1, e_st1, e_lI2, e_lR2, e_st2, e_lI3, e_lR3, e_st3, e_lI4, e_lR4, e_st4, e_lI5, e_lR5, e_st5, e_lI6, e_lR6, e_st6, e_lI7, e_lR7, e_st7, e_lI8, e_lR8, e_st8, e_swn, e_swc, e_sw0, e_sw1, e_sw2, e_sw3, e_sw4, e_sw5, e_sw6, e_sw7, e_sw8, e_sw9, Option.toList_some, Option.toList_none, List.cons_append, List.nil_append, List.length_cons, List.length_nil, Nat.reduceAdd, Nat.reduceLeDiff, Nat.zero_le, Nat.le_refl, true_and, and_true, WP_eq, Nat.reduceSub, if_true, if_false, Nat.reduceEqDiff, not_false_eq_true, i_10, i_01, Int32.reduceLT, Int32.reduceLE, true_or, or_true, ne_eq, fk_2 hk, fk_8 hk, fk_11 hk, fk_20 hk, fk_29 hk, fr_12_29_21 hr, fk_46 hk, fl_46 hl, fr_12_29_22 hr, fk_47 hk, fl_47 hl, en_93, k93_0, k93_1, k93_12, k93_13, k93_16, k93_17, k93_18, k93_19, k93_2, k93_22, k93_25, k93_26, k93_27, k93_3, k93_30, k93_31, k93_34, k93_35, k93_36, k93_37, k93_40, k93_41, k93_42, k93_45, k93_46, k93_47, k93_5, k93_50, k93_53, k93_54, k93_55, k93_58, k93_6, k93_60, k93_63, k93_64, k93_67, k93_68, k93_69, k93_9, r_93, s_aload_n, s_goto, s_iaload20, s_icmp_eq, s_icmp_ge, s_icmp_gt, s_icmp_lt, s_icmp_ne, s_iconst, s_iinc, s_iload_n, s_istore_n, s_ldc, sg_12_0, sg_12_20, sg_12_21, sg_12_22, hP, ht, c1, hin, hcl, c2, igt, ite_not]
      rw [← WP_eq, nI_1, ← ih (i + 1) (by omega), hstep]
set_option maxRecDepth 100000 in
set_option maxHeartbeats 4000000 in
theorem L_ruleNow {d P : Nat} {t : Int32} {n : Nat} {kd ln : Nat → Nat} {iv : Nat → Nat → Nat → Int32} {rv : Nat → Nat → Nat → Nat} {Q : Rt} (hk : FixK kd) (hl : FixL ln) (hr : FixR rv) (hP : iv 12 29 20 = nI P) (hP4 : P ≤ 40) (ht : iv 12 29 0 = t) :
    MW (d + 1) 93 [.inr 29] ((n, kd, ln), iv, rv) Q = Q (some (.inl (ruW (iv 20 47) (pick (iv 20 46) t P)))) ((n, kd, ln), iv, rv) := by
  simp only [e_lI0, e_lR0, e_st0, e_lI1, e_lR1, e_st1, e_lI2, e_lR2, e_st2, e_lI3, e_lR3, e_st3, e_lI4, e_lR4, e_st4, e_lI5, e_lR5, e_st5, e_lI6, e_lR6, e_st6, e_lI7, e_lR7, e_st7, e_lI8, e_lR8, e_st8, e_swn, e_swc, e_sw0, e_sw1, e_sw2, e_sw3, e_sw4, e_sw5, e_sw6, e_sw7, e_sw8, e_sw9, Option.toList_some, Option.toList_none, List.cons_append, List.nil_append, List.length_cons, List.length_nil, Nat.reduceAdd, Nat.reduceLeDiff, Nat.zero_le, Nat.le_refl, true_and, and_true, WP_eq, Nat.reduceSub, if_true, if_false, Nat.reduceEqDiff, not_false_eq_true, i_10, i_01, Int32.reduceLT, Int32.reduceLE, true_or, or_true, ne_eq, fk_2 hk, fk_8 hk, fk_11 hk, fk_20 hk, fk_29 hk, fr_12_29_21 hr, fk_46 hk, fl_46 hl, fr_12_29_22 hr, fk_47 hk, fl_47 hl, en_93, k93_0, k93_1, k93_12, k93_13, k93_16, k93_17, k93_18, k93_19, k93_2, k93_22, k93_25, k93_26, k93_27, k93_3, k93_30, k93_31, k93_34, k93_35, k93_36, k93_37, k93_40, k93_41, k93_42, k93_45, k93_46, k93_47, k93_5, k93_50, k93_53, k93_54, k93_55, k93_58, k93_6, k93_60, k93_63, k93_64, k93_67, k93_68, k93_69, k93_9, r_93, s_aload_n, s_goto, s_iaload20, s_icmp_eq, s_icmp_ge, s_icmp_gt, s_icmp_lt, s_icmp_ne, s_iconst, s_iinc, s_iload_n, s_istore_n, s_ldc, sg_12_0, sg_12_20, sg_12_21, sg_12_22]
  rw [← WP_eq]
  exact lp_ruleNow hk hl hr hP hP4 ht P 0 (by omega)
