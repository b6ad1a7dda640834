/-! what stays over the whole run of weeks -/
def GF (C Hn P : Nat) (n : Nat) (kd ln : Nat → Nat) (iv0 : Nat → Nat → Nat → Int32) (rv : Nat → Nat → Nat → Nat) : Prop :=
  iv0 11 2 10 = nI Hn ∧ iv0 11 2 11 = nI C ∧ iv0 8 8 2 = nI P ∧ C ≤ 400 ∧ (∀ i, i < C → kd (rv 32 5 i) = 2) ∧ (∀ i j, i < C → j < C → rv 32 5 i = rv 32 5 j → i = j) ∧
  (∃ wd pl go at_ fe, CHouse Hn kd (rv 34 4) (iv0 4) wd pl (iv0 20 40) (iv0 20 41) (iv0 20 42) go at_ fe) ∧ (∃ pr op ow ou, CRule P kd (rv 37 9) pr (iv0 7) (iv0 20 46) (iv0 20 47) op ow ou)
theorem CHouse.go {Hn : Nat} {kd ha : Nat → Nat} {f f' : Nat → Fn} {wd pl fo ne lo go at_ fe : Fn} {go' : Fn} (h : CHouse Hn kd ha f wd pl fo ne lo go at_ fe) (h5 : ∀ a j, j ≠ 6 → f' a j = f a j) (h6 : ∀ i, i < Hn → f' (ha i) 6 = go' i) : CHouse Hn kd ha f' wd pl fo ne lo (fun i => if i < Hn then go' i else 0) at_ fe := by
  refine ⟨h.1, h.2.1, h.2.2.1, fun i hi => ?_, h.2.2.2.2.1, fun i hi => ?_⟩
  · obtain ⟨f0, f1, f2, f3, f4, f5, f6, f7, f8⟩ := h.2.2.2.1 i hi
    rw [h5 _ 0 (by decide), h5 _ 1 (by decide), h5 _ 2 (by decide), h5 _ 3 (by decide), h5 _ 4 (by decide), h5 _ 5 (by decide), h5 _ 7 (by decide), h5 _ 8 (by decide), h6 i hi]
    exact ⟨f0, f1, f2, f3, f4, f5, (if_pos hi).symm, f7, f8⟩
  · exact ⟨if_neg (by omega), (h.2.2.2.2.2 i hi).2⟩
set_option maxRecDepth 100000 in
set_option maxHeartbeats 4000000 in
theorem lp_due1 {d C Hn P a : Nat} {wk t fr : Int32} {s : PS} {q : Fn × Fn} {n : Nat} {kd ln : Nat → Nat} {iv0 : Nat → Nat → Nat → Int32} {rv : Nat → Nat → Nat → Nat} {Q : Rt} {bc bs : Nat} (hk : FixK kd) (hl : FixL ln) (hr : FixR rv) (hG : GF C Hn P n kd ln iv0 rv) (hka : kd a = 7) (ha : RuleIs (iv0 7) a wk (ruW (iv0 20 47) (pick (iv0 20 46) t P))) :
    ∀ k i iv l3 l4, i + k = Hn → CW C Hn rv iv0 iv s q t fr → DU (dueW iv0 P t) iv i → (∀ iv', CW C Hn rv iv0 iv' (pool (dueW iv0 P t) Hn C 0 s) q t fr → Q none ((n, kd, ln), iv', rv)) → WPc (MW (d + 2)) 75 Q 14 [some (.inr 2), some (.inr a), some (.inl (nI i)), l3, l4] [] ((n, kd, ln), iv, rv) bc bs := by
  obtain ⟨gH, gC, gP, gC4, gkc, ginj, ⟨wd, pl, go, at_, fe, h3⟩, -⟩ := hG
  have hH3 := h3.1
  intro k
  induction k with
  | zero =>
    intro i iv l3 l4 hi hW hD hQ
    obtain rfl : i = Hn := by omega
    have hH' : iv 11 2 10 = nI i := by rw [hW.2.2.2.2.1 10 (by decide) (by decide)]; exact gH
    rw [WP_eq, k75_14]
    simp only [e_lI0, e_lR0, e_st0, e_lI1, e_lR1, e_st1, e_lI2, e_lR2, e_st2, e_lI3, e_lR3, e_st3, e_lI4, e_lR4, e_st4, e_lI5, e_lR5, e_st5, e_lI6, e_lR6, e_st6, e_lI7, e_lR7, e_st7, e_lI8, e_lR8, e_st8, e_swn, e_swc, e_sw0, e_sw1, e_sw2, e_sw3, e_sw4, e_sw5, e_sw6, e_sw7, e_sw8, e_sw9, Option.toList_some, Option.toList_none, List.cons_append, List.nil_append, List.length_cons, List.length_nil, Nat.reduceAdd, Nat.reduceLeDiff, Nat.zero_le, Nat.le_refl, true_and, and_true, WP_eq, Nat.reduceSub, if_true, if_false, Nat.reduceEqDiff, not_false_eq_true, i_10, i_01, Int32.reduceLT, Int32.reduceLE, true_or, or_true, ne_eq, fk_2 hk, fk_8 hk, fk_11 hk, fk_20 hk, fk_29 hk, fr_11_2_5 hr, fr_11_2_8 hr, fk_22 hk, fl_22 hl, fr_11_2_1 hr, fk_4 hk, fl_4 hl, fr_11_2_2 hr, fk_5 hk, fl_5 hl, en_75, c_30, c_65, c_71, c_72, c_76, k75_0, k75_1, k75_101, k75_102, k75_105, k75_108, k75_11, k75_111, k75_12, k75_13, k75_15, k75_16, k75_19, k75_22, k75_23, k75_26, k75_27, k75_28, k75_29, k75_32, k75_33, k75_34, k75_35, k75_38, k75_4, k75_41, k75_42, k75_45, k75_46, k75_47, k75_5, k75_50, k75_53, k75_54, k75_56, k75_57, k75_60, k75_63, k75_64, k75_67, k75_68, k75_69, k75_72, k75_75, k75_76, k75_79, k75_8, k75_80, k75_81, k75_82, k75_85, k75_87, k75_89, k75_92, k75_93, k75_94, k75_97, k75_98, k75_99, s_aaload, s_aload, s_aload_n, s_astore, s_astore_n, s_bastore, s_goto, s_icmp_ge, s_iconst, s_if_le, s_if_ne, s_ifnonnull, s_iinc, s_iload_n, s_istore_n, s_return, sg_11_1, sg_11_10, sg_11_11, sg_11_13, sg_11_2, sg_11_5, sg_11_8, sg_2_1, hH', nI_self_le]
    rw [← WP_eq]
    exact lp_pool (d := d + 1) hk hl hr gH hH3 gC gC4 h3.2.1 h3.2.2.1 gkc ginj C 0 s iv _ _ (by omega) hW hD hQ
  | succ k ih =>
    intro i iv l3 l4 hi hW hD hQ
    obtain ⟨⟨w1, w2⟩, ⟨w3, w4⟩, ⟨w5, w6⟩, ⟨w7, w8⟩, w9, w10, w11⟩ := id hW
    have hiH : i < Hn := by omega
    have hH' : iv 11 2 10 = nI Hn := by rw [w9 10 (by decide) (by decide)]; exact gH
    have c1 : ¬ nI Hn ≤ nI i := nI_ge hiH (by omega)
    have hin : vp_in (nI i) 30 := vp_in_nI (by omega) (by decide)
    have hcl : (nI i).toNatClampNeg = i := nI_clamp (by omega)
    have v20 : iv 20 = iv0 20 := w1 20 (by decide) (by decide) (by decide) (by decide) (by decide)
    have v7 : iv 7 = iv0 7 := w1 7 (by decide) (by decide) (by decide) (by decide) (by decide)
    have h3' := h3.go w5 w6
    rw [← v20] at h3'
    have ha' : RuleIs (iv 7) a wk (ruW (iv0 20 47) (pick (iv0 20 46) t P)) := by rw [v7]; exact ha
    have hdu : dueF (iv 20 41) (iv 20 42) (iv 20 40) (ruW (iv0 20 47) (pick (iv0 20 46) t P)) t i = dueW iv0 P t i := by rw [v20]; rfl
    rw [WP_eq, k75_14]
    have fin : ∀ v, (v = if dueW iv0 P t i ≤ 0 then (0 : Int32) else 1) → WPc (MW (d + 2)) 75 Q 14 [some (.inr 2), some (.inr a), some (.inl (nI (i + 1))), l3, l4] [] ((n, kd, ln), u3 iv 21 22 i v, rv) bc bs := fun v hv => by
      refine ih (i + 1) (u3 iv 21 22 i v) _ _ (by omega) ⟨⟨fun K q1 q2 q3 q4 q5 => by rw [u3_c q5]; exact w1 K q1 q2 q3 q4 q5, fun a ha => by rw [u3_a ha]; exact w2 a ha⟩, ?_⟩ (fun j hj => ?_) hQ
      · simp only [u3_c (show (2 : Nat) ≠ 21 by decide), u3_c (show (4 : Nat) ≠ 21 by decide), u3_c (show (5 : Nat) ≠ 21 by decide), u3_c (show (11 : Nat) ≠ 21 by decide)]
        exact hW.2
      · by_cases e : j = i
        · subst e; rw [u3_s, hv]
        · rw [u3_j e]; exact hD j (by omega)
    by_cases c2 : dueW iv0 P t i ≤ 0
    · simp only [e_lI0, e_lR0, e_st0, e_lI1, e_lR1, e_st1, e_lI2, e_lR2, e_st2, e_lI3, e_lR3, e_st3, e_lI4, e_lR4, e_st4, e_lI5, e_lR5, e_st5, e_lI6, e_lR6, e_st6, e_lI7, e_lR7, e_st7, e_lI8, e_lR8, e_st8, e_swn, e_swc, e_sw0, e_sw1, e_sw2, e_sw3, e_sw4, e_sw5, e_sw6, e_sw7, e_sw8, e_sw9, Option.toList_some, Option.toList_none, List.cons_append, List.nil_append, List.length_cons, List.length_nil, Nat.reduceAdd, Nat.reduceLeDiff, Nat.zero_le, Nat.le_refl, true_and, and_true, WP_eq, Nat.reduceSub, if_true, if_false, Nat.reduceEqDiff, not_false_eq_true, i_10, i_01, Int32.reduceLT, Int32.reduceLE, true_or, or_true, ne_eq, fk_2 hk, fk_8 hk, fk_11 hk, fk_20 hk, fk_29 hk, fr_11_2_5 hr, fr_11_2_8 hr, fk_22 hk, fl_22 hl, fr_11_2_1 hr, fk_4 hk, fl_4 hl, fr_11_2_2 hr, fk_5 hk, fl_5 hl, en_75, c_30, c_65, c_71, c_72, c_76, k75_0, k75_1, k75_101, k75_102, k75_105, k75_108, k75_11, k75_111, k75_12, k75_13, k75_15, k75_16, k75_19, k75_22, k75_23, k75_26, k75_27, k75_28, k75_29, k75_32, k75_33, k75_34, k75_35, k75_38, k75_4, k75_41, k75_42, k75_45, k75_46, k75_47, k75_5, k75_50, k75_53, k75_54, k75_56, k75_57, k75_60, k75_63, k75_64, k75_67, k75_68, k75_69, k75_72, k75_75, k75_76, k75_79, k75_8, k75_80, k75_81, k75_82, k75_85, k75_87, k75_89, k75_92, k75_93, k75_94, k75_97, k75_98, k75_99, s_aaload, s_aload, s_aload_n, s_astore, s_astore_n, s_bastore, s_goto, s_icmp_ge, s_iconst, s_if_le, s_if_ne, s_ifnonnull, s_iinc, s_iload_n, s_istore_n, s_return, sg_11_1, sg_11_10, sg_11_11, sg_11_13, sg_11_2, sg_11_5, sg_11_8, sg_2_1, hH', c1, hin, hcl, L_bowlsDue hk hl hr h3' hiH hka ha' w10, hdu, c2]
      rw [← WP_eq, nI_1]
      exact fin 0 (by rw [if_pos c2])
    · simp only [e_lI0, e_lR0, e_st0, e_lI1, e_lR1, e_st1, e_lI2, e_lR2, e_st2, e_lI3, e_lR3, e_st3, e_lI4, e_lR4, e_st4, e_lI5, e_lR5, e_st5, e_lI6, e_lR6, e_st6, e_lI7, e_lR7, e_st7, e_lI8, e_lR8, e_st8, e_swn, e_swc, e_sw0, e_sw1, e_sw2, e_sw3, e_sw4, e_sw5, e_sw6, e_sw7, e_sw8, e_sw9, Option.toList_some, Option.toList_none, List.cons_append, List.nil_append, List.length_cons, List.length_nil, Nat.reduceAdd, Nat.reduceLeDiff, Nat.zero_le, Nat.le_refl, true_and, and_true, WP_eq, Nat.reduceSub, if_true, if_false, Nat.reduceEqDiff, not_false_eq_true, i_10, i_01, Int32.reduceLT, Int32.reduceLE, true_or, or_true, ne_eq, fk_2 hk, fk_8 hk, fk_11 hk, fk_20 hk, fk_29 hk, fr_11_2_5 hr, fr_11_2_8 hr, fk_22 hk, fl_22 hl, fr_11_2_1 hr, fk_4 hk, fl_4 hl, fr_11_2_2 hr, fk_5 hk, fl_5 hl, en_75, c_30, c_65, c_71, c_72, c_76, k75_0, k75_1, k75_101, k75_102, k75_105, k75_108, k75_11, k75_111, k75_12, k75_13, k75_15, k75_16, k75_19, k75_22, k75_23, k75_26, k75_27, k75_28, k75_29, k75_32, k75_33, k75_34, k75_35, k75_38, k75_4, k75_41, k75_42, k75_45, k75_46, k75_47, k75_5, k75_50, k75_53, k75_54, k75_56, k75_57, k75_60, k75_63, k75_64, k75_67, k75_68, k75_69, k75_72, k75_75, k75_76, k75_79, k75_8, k75_80, k75_81, k75_82, k75_85, k75_87, k75_89, k75_92, k75_93, k75_94, k75_97, k75_98, k75_99, s_aaload, s_aload, s_aload_n, s_astore, s_astore_n, s_bastore, s_goto, s_icmp_ge, s_iconst, s_if_le, s_if_ne, s_ifnonnull, s_iinc, s_iload_n, s_istore_n, s_return, sg_11_1, sg_11_10, sg_11_11, sg_11_13, sg_11_2, sg_11_5, sg_11_8, sg_2_1, hH', c1, hin, hcl, L_bowlsDue hk hl hr h3' hiH hka ha' w10, hdu, c2]
      rw [← WP_eq, nI_1]
      exact fin 1 (by rw [if_neg c2])
set_option maxRecDepth 100000 in
set_option maxHeartbeats 4000000 in
theorem L_pools {d C Hn P : Nat} {t fr : Int32} {s : PS} {q : Fn × Fn} {n : Nat} {kd ln : Nat → Nat} {iv0 iv : Nat → Nat → Nat → Int32} {rv : Nat → Nat → Nat → Nat} {Q : Rt} (hk : FixK kd) (hl : FixL ln) (hr : FixR rv) (hG : GF C Hn P n kd ln iv0 rv) (hW : CW C Hn rv iv0 iv s q t fr) (hQ : ∀ iv', CW C Hn rv iv0 iv' (pool (dueW iv0 P t) Hn C 0 s) q t fr → Q none ((n, kd, ln), iv', rv)) : MW (d + 3) 75 [.inr 2] ((n, kd, ln), iv, rv) Q := by
  obtain ⟨gH, gC, gP, gC4, gkc, ginj, -, ⟨pr, op, ow, ou, h4⟩⟩ := id hG
  obtain ⟨⟨w1, w2⟩, ⟨w3, w4⟩, ⟨w5, w6⟩, ⟨w7, w8⟩, w9, w10, w11⟩ := id hW
  have v20 : iv 20 = iv0 20 := w1 20 (by decide) (by decide) (by decide) (by decide) (by decide)
  have v7 : iv 7 = iv0 7 := w1 7 (by decide) (by decide) (by decide) (by decide) (by decide)
  have v8 : iv 8 = iv0 8 := w1 8 (by decide) (by decide) (by decide) (by decide) (by decide)
  have gP' : iv 8 8 2 = nI P := by rw [v8]; exact gP
  have h4' : CRule P kd (rv 37 9) pr (iv 7) (iv 20 46) (iv 20 47) op ow ou := by rw [v7, v20]; exact h4
  obtain ⟨hka, wk, ha⟩ := pick_is (t := t) h4 (fk_10 hk)
  simp only [e_lI0, e_lR0, e_st0, e_lI1, e_lR1, e_st1, e_lI2, e_lR2, e_st2, e_lI3, e_lR3, e_st3, e_lI4, e_lR4, e_st4, e_lI5, e_lR5, e_st5, e_lI6, e_lR6, e_st6, e_lI7, e_lR7, e_st7, e_lI8, e_lR8, e_st8, e_swn, e_swc, e_sw0, e_sw1, e_sw2, e_sw3, e_sw4, e_sw5, e_sw6, e_sw7, e_sw8, e_sw9, Option.toList_some, Option.toList_none, List.cons_append, List.nil_append, List.length_cons, List.length_nil, Nat.reduceAdd, Nat.reduceLeDiff, Nat.zero_le, Nat.le_refl, true_and, and_true, WP_eq, Nat.reduceSub, if_true, if_false, Nat.reduceEqDiff, not_false_eq_true, i_10, i_01, Int32.reduceLT, Int32.reduceLE, true_or, or_true, ne_eq, fk_2 hk, fk_8 hk, fk_11 hk, fk_20 hk, fk_29 hk, fr_11_2_5 hr, fr_11_2_8 hr, fk_22 hk, fl_22 hl, fr_11_2_1 hr, fk_4 hk, fl_4 hl, fr_11_2_2 hr, fk_5 hk, fl_5 hl, en_75, c_30, c_65, c_71, c_72, c_76, k75_0, k75_1, k75_101, k75_102, k75_105, k75_108, k75_11, k75_111, k75_12, k75_13, k75_15, k75_16, k75_19, k75_22, k75_23, k75_26, k75_27, k75_28, k75_29, k75_32, k75_33, k75_34, k75_35, k75_38, k75_4, k75_41, k75_42, k75_45, k75_46, k75_47, k75_5, k75_50, k75_53, k75_54, k75_56, k75_57, k75_60, k75_63, k75_64, k75_67, k75_68, k75_69, k75_72, k75_75, k75_76, k75_79, k75_8, k75_80, k75_81, k75_82, k75_85, k75_87, k75_89, k75_92, k75_93, k75_94, k75_97, k75_98, k75_99, s_aaload, s_aload, s_aload_n, s_astore, s_astore_n, s_bastore, s_goto, s_icmp_ge, s_iconst, s_if_le, s_if_ne, s_ifnonnull, s_iinc, s_iload_n, s_istore_n, s_return, sg_11_1, sg_11_10, sg_11_11, sg_11_13, sg_11_2, sg_11_5, sg_11_8, sg_2_1, L_inForce hk hl hr gP' h4', w10, v20]
  rw [← WP_eq]
  exact lp_due1 hk hl hr hG hka ha Hn 0 iv _ _ (by omega) hW (fun j hj => absurd hj (by omega)) hQ
set_option maxRecDepth 100000 in
set_option maxHeartbeats 4000000 in
theorem lp_kits {d C Hn : Nat} {t fr : Int32} {s : PS} {q : Fn × Fn} {n : Nat} {kd ln : Nat → Nat} {iv0 : Nat → Nat → Nat → Int32} {rv : Nat → Nat → Nat → Nat} {Q : Rt} {bc bs : Nat} (hk : FixK kd) (hl : FixL ln) (hr : FixR rv) (hQ : ∀ iv', CW C Hn rv iv0 iv' s (kit q 6) (t + 1) 0 → Q none ((n, kd, ln), iv', rv)) :
    ∀ k i iv, i + k = 6 → CW C Hn rv iv0 iv s (kit q i) t fr → WPc (MW d) 74 Q 16 [some (.inr 2), some (.inl (nI i))] [] ((n, kd, ln), iv, rv) bc bs := by
  intro k
  induction k with
  | zero =>
    intro i iv hi hW
    obtain rfl : i = 6 := by omega
    have c1 : (6 : Int32) ≤ nI 6 := by decide
    obtain ⟨⟨w1, w2⟩, ⟨w3, w4⟩, ⟨w5, w6⟩, ⟨w7, w8⟩, w9, w10, w11⟩ := id hW
    rw [WP_eq, k74_16]
    simp only [e_lI0, e_lR0, e_st0, e_lI1, e_lR1, e_st1, e_lI2, e_lR2, e_st2, e_lI3, e_lR3, e_st3, e_lI4, e_lR4, e_st4, e_lI5, e_lR5, e_st5, e_lI6, e_lR6, e_st6, e_lI7, e_lR7, e_st7, e_lI8, e_lR8, e_st8, e_swn, e_swc, e_sw0, e_sw1, e_sw2, e_sw3, e_sw4, e_sw5, e_sw6, e_sw7, e_sw8, e_sw9, Option.toList_some, Option.toList_none, List.cons_append, List.nil_append, List.length_cons, List.length_nil, Nat.reduceAdd, Nat.reduceLeDiff, Nat.zero_le, Nat.le_refl, true_and, and_true, WP_eq, Nat.reduceSub, if_true, if_false, Nat.reduceEqDiff, not_false_eq_true, i_10, i_01, Int32.reduceLT, Int32.reduceLE, true_or, or_true, ne_eq, fk_2 hk, fk_8 hk, fk_11 hk, fk_20 hk, fk_29 hk, fr_11_2_4 hr, fk_7 hk, fl_7 hl, en_74, c_75, k74_0, k74_1, k74_10, k74_11, k74_14, k74_15, k74_17, k74_19, k74_22, k74_23, k74_26, k74_27, k74_28, k74_29, k74_32, k74_33, k74_36, k74_37, k74_38, k74_4, k74_41, k74_42, k74_45, k74_46, k74_49, k74_5, k74_50, k74_51, k74_52, k74_55, k74_58, k74_6, k74_61, k74_62, k74_63, k74_66, k74_67, k74_68, k74_7, k74_71, k74_72, k74_73, k74_76, s_aaload, s_aload_n, s_bipush, s_dup, s_goto, s_iadd, s_icmp_ge, s_icmp_ne, s_iconst, s_iinc, s_iload_n, s_irem, s_istore_n, s_return, sg_11_13, sg_11_4, sg_5_1, sg_5_2, sp_11_13, sp_11_14, sp_5_1, sp_5_2, c1, Nat.add_left_cancel_iff, u3_d, eq_self, false_and, and_false, and_self, if_true, if_false, Nat.reduceEqDiff]
    refine hQ _ ⟨⟨fun K q1 q2 q3 q4 q5 => by rw [u3_c q4, u3_c q4]; exact w1 K q1 q2 q3 q4 q5, fun a ha => by rw [u3_c (by decide), u3_c (by decide)]; exact w2 a ha⟩, ?_⟩
    simp only [u3_c (show (2 : Nat) ≠ 11 by decide), u3_c (show (4 : Nat) ≠ 11 by decide), u3_c (show (5 : Nat) ≠ 11 by decide)]
    refine ⟨⟨w3, w4⟩, ⟨w5, w6⟩, ⟨w7, w8⟩, fun j j1 j2 => ?_, ?_, ?_⟩
    · rw [u3_j j1, u3_j j2]; exact w9 j j1 j2
    · rw [u3_s, w10]
    · simp only [Nat.add_left_cancel_iff, u3_d, eq_self, false_and, and_false, and_self, if_true, if_false, Nat.reduceEqDiff]
  | succ k ih =>
    intro i iv hi hW
    have hi6 : i < 6 := by omega
    have c1 : ¬ (6 : Int32) ≤ nI i := nI_ge hi6 (by decide)
    have hin : vp_in (nI i) 6 := vp_in_nI hi6 (by decide)
    have hcl : (nI i).toNatClampNeg = i := nI_clamp (by omega)
    have e1 := fix_kit hr hi6
    have e2 := fix_kitk hk hi6
    obtain ⟨⟨w1, w2⟩, ⟨w3, w4⟩, ⟨w5, w6⟩, ⟨w7, w8⟩, w9, w10, w11⟩ := id hW
    obtain ⟨g1, g2⟩ := w8 i hi6
    rw [WP_eq, k74_16]
    simp only [e_lI0, e_lR0, e_st0, e_lI1, e_lR1, e_st1, e_lI2, e_lR2, e_st2, e_lI3, e_lR3, e_st3, e_lI4, e_lR4, e_st4, e_lI5, e_lR5, e_st5, e_lI6, e_lR6, e_st6, e_lI7, e_lR7, e_st7, e_lI8, e_lR8, e_st8, e_swn, e_swc, e_sw0, e_sw1, e_sw2, e_sw3, e_sw4, e_sw5, e_sw6, e_sw7, e_sw8, e_sw9, Option.toList_some, Option.toList_none, List.cons_append, List.nil_append, List.length_cons, List.length_nil, Nat.reduceAdd, Nat.reduceLeDiff, Nat.zero_le, Nat.le_refl, true_and, and_true, WP_eq, Nat.reduceSub, if_true, if_false, Nat.reduceEqDiff, not_false_eq_true, i_10, i_01, Int32.reduceLT, Int32.reduceLE, true_or, or_true, ne_eq, fk_2 hk, fk_8 hk, fk_11 hk, fk_20 hk, fk_29 hk, fr_11_2_4 hr, fk_7 hk, fl_7 hl, en_74, c_75, k74_0, k74_1, k74_10, k74_11, k74_14, k74_15, k74_17, k74_19, k74_22, k74_23, k74_26, k74_27, k74_28, k74_29, k74_32, k74_33, k74_36, k74_37, k74_38, k74_4, k74_41, k74_42, k74_45, k74_46, k74_49, k74_5, k74_50, k74_51, k74_52, k74_55, k74_58, k74_6, k74_61, k74_62, k74_63, k74_66, k74_67, k74_68, k74_7, k74_71, k74_72, k74_73, k74_76, s_aaload, s_aload_n, s_bipush, s_dup, s_goto, s_iadd, s_icmp_ge, s_icmp_ne, s_iconst, s_iinc, s_iload_n, s_irem, s_istore_n, s_return, sg_11_13, sg_11_4, sg_5_1, sg_5_2, sp_11_13, sp_11_14, sp_5_1, sp_5_2, c1, hin, hcl, e1, e2, g1, g2, Nat.add_left_cancel_iff, u3_d, eq_self, false_and, and_false, and_self, if_true, if_false, Nat.reduceEqDiff]
    rw [← WP_eq, nI_1]
    refine ih (i + 1) _ (by omega) ⟨⟨fun K q1 q2 q3 q4 q5 => by rw [u3_c q3, u3_c q3]; exact w1 K q1 q2 q3 q4 q5, fun a ha => by rw [u3_c (by decide), u3_c (by decide)]; exact w2 a ha⟩, ?_⟩
    simp only [u3_c (show (2 : Nat) ≠ 5 by decide), u3_c (show (4 : Nat) ≠ 5 by decide), u3_c (show (11 : Nat) ≠ 5 by decide)]
    refine ⟨⟨w3, w4⟩, ⟨w5, w6⟩, ⟨fun a j j1 j2 => ?_, fun w hw => ?_⟩, w9, w10, w11⟩
    · rw [u3_j j1, u3_j j2]; exact w7 a j j1 j2
    · have ek : kit q (i + 1) = (va_up (kit q i).1 i 0, va_up (kit q i).2 i ((kit q i).2 i + (kit q i).1 i)) := rfl
      rw [ek]
      by_cases e : w = i
      · subst e
        simp only [Nat.add_left_cancel_iff, u3_d, eq_self, false_and, and_false, and_self, if_true, if_false, Nat.reduceEqDiff, up_s]
      · have e' : ¬ 23 + w = 23 + i := by omega
        simp only [Nat.add_left_cancel_iff, u3_d, eq_self, false_and, and_false, and_self, if_true, if_false, Nat.reduceEqDiff, up_n e, e, e']
        exact w8 w hw
set_option maxRecDepth 100000 in
set_option maxHeartbeats 4000000 in
theorem L_endWeek {d C Hn P T : Nat} {fr : Int32} {s : PS} {q : Fn × Fn} {n : Nat} {kd ln : Nat → Nat} {iv0 iv : Nat → Nat → Nat → Int32} {rv : Nat → Nat → Nat → Nat} {Q : Rt} (hk : FixK kd) (hl : FixL ln) (hr : FixR rv) (hG : GF C Hn P n kd ln iv0 rv) (hW : CW C Hn rv iv0 iv s q (nI T) fr) (hQ : ∀ iv', CW C Hn rv iv0 iv' (wkP iv0 C Hn P T s) (kit q 6) (nI (T + 1)) 0 → Q none ((n, kd, ln), iv', rv)) : MW (d + 4) 74 [.inr 2] ((n, kd, ln), iv, rv) Q := by
  have w10 := hW.2.2.2.2.2.1
  have i4 : ¬ (4 : Int32) = 0 := by decide
  rw [← nI_1] at hQ
  by_cases c : rmd (nI T) 4 = 3
  · simp only [e_lI0, e_lR0, e_st0, e_lI1, e_lR1, e_st1, e_lI2, e_lR2, e_st2, e_lI3, e_lR3, e_st3, e_lI4, e_lR4, e_st4, e_lI5, e_lR5, e_st5, e_lI6, e_lR6, e_st6, e_lI7, e_lR7, e_st7, e_lI8, e_lR8, e_st8, e_swn, e_swc, e_sw0, e_sw1, e_sw2, e_sw3, e_sw4, e_sw5, e_sw6, e_sw7, e_sw8, e_sw9, Option.toList_some, Option.toList_none, List.cons_append, List.nil_append, List.length_cons, List.length_nil, Nat.reduceAdd, Nat.reduceLeDiff, Nat.zero_le, Nat.le_refl, true_and, and_true, WP_eq, Nat.reduceSub, if_true, if_false, Nat.reduceEqDiff, not_false_eq_true, i_10, i_01, Int32.reduceLT, Int32.reduceLE, true_or, or_true, ne_eq, fk_2 hk, fk_8 hk, fk_11 hk, fk_20 hk, fk_29 hk, fr_11_2_4 hr, fk_7 hk, fl_7 hl, en_74, c_75, k74_0, k74_1, k74_10, k74_11, k74_14, k74_15, k74_17, k74_19, k74_22, k74_23, k74_26, k74_27, k74_28, k74_29, k74_32, k74_33, k74_36, k74_37, k74_38, k74_4, k74_41, k74_42, k74_45, k74_46, k74_49, k74_5, k74_50, k74_51, k74_52, k74_55, k74_58, k74_6, k74_61, k74_62, k74_63, k74_66, k74_67, k74_68, k74_7, k74_71, k74_72, k74_73, k74_76, s_aaload, s_aload_n, s_bipush, s_dup, s_goto, s_iadd, s_icmp_ge, s_icmp_ne, s_iconst, s_iinc, s_iload_n, s_irem, s_istore_n, s_return, sg_11_13, sg_11_4, sg_5_1, sg_5_2, sp_11_13, sp_11_14, sp_5_1, sp_5_2, w10, i4, eq_true c]
    refine L_pools (d := d) hk hl hr hG hW (fun iv' hW' => ?_)
    simp only [e_lI0, e_lR0, e_st0, e_lI1, e_lR1, e_st1, e_lI2, e_lR2, e_st2, e_lI3, e_lR3, e_st3, e_lI4, e_lR4, e_st4, e_lI5, e_lR5, e_st5, e_lI6, e_lR6, e_st6, e_lI7, e_lR7, e_st7, e_lI8, e_lR8, e_st8, e_swn, e_swc, e_sw0, e_sw1, e_sw2, e_sw3, e_sw4, e_sw5, e_sw6, e_sw7, e_sw8, e_sw9, Option.toList_some, Option.toList_none, List.cons_append, List.nil_append, List.length_cons, List.length_nil, Nat.reduceAdd, Nat.reduceLeDiff, Nat.zero_le, Nat.le_refl, true_and, and_true, WP_eq, Nat.reduceSub, if_true, if_false, Nat.reduceEqDiff, not_false_eq_true, i_10, i_01, Int32.reduceLT, Int32.reduceLE, true_or, or_true, ne_eq, fk_2 hk, fk_8 hk, fk_11 hk, fk_20 hk, fk_29 hk, fr_11_2_4 hr, fk_7 hk, fl_7 hl, en_74, c_75, k74_0, k74_1, k74_10, k74_11, k74_14, k74_15, k74_17, k74_19, k74_22, k74_23, k74_26, k74_27, k74_28, k74_29, k74_32, k74_33, k74_36, k74_37, k74_38, k74_4, k74_41, k74_42, k74_45, k74_46, k74_49, k74_5, k74_50, k74_51, k74_52, k74_55, k74_58, k74_6, k74_61, k74_62, k74_63, k74_66, k74_67, k74_68, k74_7, k74_71, k74_72, k74_73, k74_76, s_aaload, s_aload_n, s_bipush, s_dup, s_goto, s_iadd, s_icmp_ge, s_icmp_ne, s_iconst, s_iinc, s_iload_n, s_irem, s_istore_n, s_return, sg_11_13, sg_11_4, sg_5_1, sg_5_2, sp_11_13, sp_11_14, sp_5_1, sp_5_2]
    rw [← WP_eq]
    refine lp_kits hk hl hr (fun iv2 h2 => hQ iv2 ?_) 6 0 iv' (by omega) hW'
    unfold wkP
    rw [if_pos c]
    exact h2
  · simp only [e_lI0, e_lR0, e_st0, e_lI1, e_lR1, e_st1, e_lI2, e_lR2, e_st2, e_lI3, e_lR3, e_st3, e_lI4, e_lR4, e_st4, e_lI5, e_lR5, e_st5, e_lI6, e_lR6, e_st6, e_lI7, e_lR7, e_st7, e_lI8, e_lR8, e_st8, e_swn, e_swc, e_sw0, e_sw1, e_sw2, e_sw3, e_sw4, e_sw5, e_sw6, e_sw7, e_sw8, e_sw9, Option.toList_some, Option.toList_none, List.cons_append, List.nil_append, List.length_cons, List.length_nil, Nat.reduceAdd, Nat.reduceLeDiff, Nat.zero_le, Nat.le_refl, true_and, and_true, WP_eq, Nat.reduceSub, if_true, if_false, Nat.reduceEqDiff, not_false_eq_true, i_10, i_01, Int32.reduceLT, Int32.reduceLE, true_or, or_true, ne_eq, fk_2 hk, fk_8 hk, fk_11 hk, fk_20 hk, fk_29 hk, fr_11_2_4 hr, fk_7 hk, fl_7 hl, en_74, c_75, k74_0, k74_1, k74_10, k74_11, k74_14, k74_15, k74_17, k74_19, k74_22, k74_23, k74_26, k74_27, k74_28, k74_29, k74_32, k74_33, k74_36, k74_37, k74_38, k74_4, k74_41, k74_42, k74_45, k74_46, k74_49, k74_5, k74_50, k74_51, k74_52, k74_55, k74_58, k74_6, k74_61, k74_62, k74_63, k74_66, k74_67, k74_68, k74_7, k74_71, k74_72, k74_73, k74_76, s_aaload, s_aload_n, s_bipush, s_dup, s_goto, s_iadd, s_icmp_ge, s_icmp_ne, s_iconst, s_iinc, s_iload_n, s_irem, s_istore_n, s_return, sg_11_13, sg_11_4, sg_5_1, sg_5_2, sp_11_13, sp_11_14, sp_5_1, sp_5_2, w10, i4, eq_false c]
    rw [← WP_eq]
    refine lp_kits hk hl hr (fun iv2 h2 => hQ iv2 ?_) 6 0 iv (by omega) hW
    unfold wkP
    rw [if_neg c]
    exact h2
set_option maxRecDepth 100000 in
set_option maxHeartbeats 4000000 in
theorem lp_goC {d C Hn P m : Nat} (hm : m ≤ 60) {n : Nat} {kd ln : Nat → Nat} {iv0 : Nat → Nat → Nat → Int32} {rv : Nat → Nat → Nat → Nat} {Q : Rt} {bc bs : Nat} (hk : FixK kd) (hl : FixL ln) (hr : FixR rv) (hG : GF C Hn P n kd ln iv0 rv) :
    ∀ k i T s q fr iv, i + k = m → T ≤ 1040 → CW C Hn rv iv0 iv s q (nI T) fr → (∀ iv' T' s' q' fr', wks (wkP iv0 C Hn P) k T s q fr = (T', s', q', fr') → CW C Hn rv iv0 iv' s' q' (nI T') fr' → Q (some (.inl (nI T'))) ((n, kd, ln), iv', rv)) → WPc (MW (d + 4)) 49 Q 14 [some (.inr 2), some (.inl (nI m)), some (.inl (nI i))] [] ((n, kd, ln), iv, rv) bc bs := by
  intro k
  induction k with
  | zero =>
    intro i T s q fr iv hi hT hW hQ
    obtain rfl : i = m := by omega
    have w10 := hW.2.2.2.2.2.1
    rw [WP_eq, k49_14]
    simp only [e_lI0, e_lR0, e_st0, e_lI1, e_lR1, e_st1, e_lI2, e_lR2, e_st2, e_lI3, e_lR3, e_st3, e_lI4, e_lR4, e_st4, e_lI5, e_lR5, e_st5, e_lI6, e_lR6, e_st6, e_lI7, e_lR7, e_st7, e_lI8, e_lR8, e_st8, e_swn, e_swc, e_sw0, e_sw1, e_sw2, e_sw3, e_sw4, e_sw5, e_sw6, e_sw7, e_sw8, e_sw9, Option.toList_some, Option.toList_none, List.cons_append, List.nil_append, List.length_cons, List.length_nil, Nat.reduceAdd, Nat.reduceLeDiff, Nat.zero_le, Nat.le_refl, true_and, and_true, WP_eq, Nat.reduceSub, if_true, if_false, Nat.reduceEqDiff, not_false_eq_true, i_10, i_01, Int32.reduceLT, Int32.reduceLE, true_or, or_true, ne_eq, fk_2 hk, fk_8 hk, fk_11 hk, fk_20 hk, fk_29 hk, en_49, c_74, k49_0, k49_1, k49_10, k49_11, k49_12, k49_13, k49_15, k49_16, k49_19, k49_20, k49_23, k49_26, k49_29, k49_30, k49_33, k49_36, k49_39, k49_4, k49_40, k49_43, k49_5, k49_7, r_49, s_aload_n, s_bipush, s_goto, s_icmp_ge, s_icmp_le, s_iconst, s_if_lt, s_iinc, s_iload_n, s_istore_n, s_sipush, sg_11_13, nI_self_le, w10]
    exact hQ iv T s q fr rfl hW
  | succ k ih =>
    intro i T s q fr iv hi hT hW hQ
    have w10 := hW.2.2.2.2.2.1
    have c1 : ¬ nI m ≤ nI i := nI_ge (show i < m by omega) (by omega)
    rw [WP_eq, k49_14]
    rcases Nat.lt_or_ge T 1040 with c | c
    · have c2 : ¬ (1040 : Int32) ≤ nI T := nI_ge c (by decide)
      have e : wks (wkP iv0 C Hn P) (k + 1) T s q fr = wks (wkP iv0 C Hn P) k (T + 1) (wkP iv0 C Hn P T s) (kit q 6) 0 := if_pos c
      simp only [e_lI0, e_lR0, e_st0, e_lI1, e_lR1, e_st1, e_lI2, e_lR2, e_st2, e_lI3, e_lR3, e_st3, e_lI4, e_lR4, e_st4, e_lI5, e_lR5, e_st5, e_lI6, e_lR6, e_st6, e_lI7, e_lR7, e_st7, e_lI8, e_lR8, e_st8, e_swn, e_swc, e_sw0, e_sw1, e_sw2, e_sw3, e_sw4, e_sw5, e_sw6, e_sw7, e_sw8, e_sw9, Option.toList_some, Option.toList_none, List.cons_append, List.nil_append, List.length_cons, List.length_nil, Nat.reduceAdd, Nat.reduceLeDiff, Nat.zero_le, Nat.le_refl, true_and, and_true, WP_eq, Nat.reduceSub, if_true, if_false, Nat.reduceEqDiff, not_false_eq_true, i_10, i_01, Int32.reduceLT, Int32.reduceLE, true_or, or_true, ne_eq, fk_2 hk, fk_8 hk, fk_11 hk, fk_20 hk, fk_29 hk, en_49, c_74, k49_0, k49_1, k49_10, k49_11, k49_12, k49_13, k49_15, k49_16, k49_19, k49_20, k49_23, k49_26, k49_29, k49_30, k49_33, k49_36, k49_39, k49_4, k49_40, k49_43, k49_5, k49_7, r_49, s_aload_n, s_bipush, s_goto, s_icmp_ge, s_icmp_le, s_iconst, s_if_lt, s_iinc, s_iload_n, s_istore_n, s_sipush, sg_11_13, c1, w10, c2]
      refine L_endWeek (d := d) hk hl hr hG hW (fun iv' hW' => ?_)
      simp only [e_lI0, e_lR0, e_st0, e_lI1, e_lR1, e_st1, e_lI2, e_lR2, e_st2, e_lI3, e_lR3, e_st3, e_lI4, e_lR4, e_st4, e_lI5, e_lR5, e_st5, e_lI6, e_lR6, e_st6, e_lI7, e_lR7, e_st7, e_lI8, e_lR8, e_st8, e_swn, e_swc, e_sw0, e_sw1, e_sw2, e_sw3, e_sw4, e_sw5, e_sw6, e_sw7, e_sw8, e_sw9, Option.toList_some, Option.toList_none, List.cons_append, List.nil_append, List.length_cons, List.length_nil, Nat.reduceAdd, Nat.reduceLeDiff, Nat.zero_le, Nat.le_refl, true_and, and_true, WP_eq, Nat.reduceSub, if_true, if_false, Nat.reduceEqDiff, not_false_eq_true, i_10, i_01, Int32.reduceLT, Int32.reduceLE, true_or, or_true, ne_eq, fk_2 hk, fk_8 hk, fk_11 hk, fk_20 hk, fk_29 hk, en_49, c_74, k49_0, k49_1, k49_10, k49_11, k49_12, k49_13, k49_15, k49_16, k49_19, k49_20, k49_23, k49_26, k49_29, k49_30, k49_33, k49_36, k49_39, k49_4, k49_40, k49_43, k49_5, k49_7, r_49, s_aload_n, s_bipush, s_goto, s_icmp_ge, s_icmp_le, s_iconst, s_if_lt, s_iinc, s_iload_n, s_istore_n, s_sipush, sg_11_13]
      rw [← WP_eq, nI_1]
      exact ih (i + 1) (T + 1) _ _ _ iv' (by omega) (by omega) hW' (fun iv2 T' s' q' fr' he h2 => hQ iv2 T' s' q' fr' (by rw [e]; exact he) h2)
    · obtain rfl : T = 1040 := by omega
      have c2 : (1040 : Int32) ≤ nI 1040 := by decide
      have e : wks (wkP iv0 C Hn P) (k + 1) 1040 s q fr = (1040, s, q, fr) := if_neg (by decide)
      simp only [e_lI0, e_lR0, e_st0, e_lI1, e_lR1, e_st1, e_lI2, e_lR2, e_st2, e_lI3, e_lR3, e_st3, e_lI4, e_lR4, e_st4, e_lI5, e_lR5, e_st5, e_lI6, e_lR6, e_st6, e_lI7, e_lR7, e_st7, e_lI8, e_lR8, e_st8, e_swn, e_swc, e_sw0, e_sw1, e_sw2, e_sw3, e_sw4, e_sw5, e_sw6, e_sw7, e_sw8, e_sw9, Option.toList_some, Option.toList_none, List.cons_append, List.nil_append, List.length_cons, List.length_nil, Nat.reduceAdd, Nat.reduceLeDiff, Nat.zero_le, Nat.le_refl, true_and, and_true, WP_eq, Nat.reduceSub, if_true, if_false, Nat.reduceEqDiff, not_false_eq_true, i_10, i_01, Int32.reduceLT, Int32.reduceLE, true_or, or_true, ne_eq, fk_2 hk, fk_8 hk, fk_11 hk, fk_20 hk, fk_29 hk, en_49, c_74, k49_0, k49_1, k49_10, k49_11, k49_12, k49_13, k49_15, k49_16, k49_19, k49_20, k49_23, k49_26, k49_29, k49_30, k49_33, k49_36, k49_39, k49_4, k49_40, k49_43, k49_5, k49_7, r_49, s_aload_n, s_bipush, s_goto, s_icmp_ge, s_icmp_le, s_iconst, s_if_lt, s_iinc, s_iload_n, s_istore_n, s_sipush, sg_11_13, c1, w10, c2]
      exact hQ iv 1040 s q fr e hW
