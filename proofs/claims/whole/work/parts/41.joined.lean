theorem cmpC_comm : ∀ k x y al, cmpC k x y al = cmpC k y x al
  | 0, _, _, _ => rfl
  | k + 1, x, y, al => by
    unfold cmpC
    by_cases c2 : rmd x 10 = 9
    · rw [if_pos c2]
      by_cases c3 : rmd y 10 = 9
      · rw [if_pos c3, cmpC_comm k]
      · rw [if_neg c3, if_pos c2, cmpC_comm k]
    · rw [if_neg c2]
      by_cases c3 : rmd y 10 = 9
      · rw [if_pos c3, if_pos c3, cmpC_comm k]
      · rw [if_neg c3, if_neg c3, if_neg c2]
        by_cases c4 : rmd x 10 = rmd y 10
        · rw [if_pos c4, if_pos c4.symm, cmpC_comm k]
        · rw [if_neg c4, if_neg (fun z => c4 z.symm)]
theorem smE_comm {ec em : Fn} {a b : Nat} (h : smE ec em a b) : smE ec em b a := ⟨fun z => h.1 z.symm, by rw [cmpC_comm]; exact h.2⟩
def sumR (R : Nat → Nat) : Nat → Nat
  | 0 => 0
  | k + 1 => sumR R k + R k
theorem sumR_same {R R' : Nat → Nat} : ∀ k, (∀ i, i < k → R' i = R i) → sumR R' k = sumR R k
  | 0, _ => rfl
  | k + 1, h => by unfold sumR; rw [sumR_same k (fun i hi => h i (by omega)), h k (by omega)]
theorem sumR_less {R : Nat → Nat} {a v : Nat} : ∀ k, a < k → v < R a → sumR (va_up R a v) k < sumR R k
  | 0, h, _ => by omega
  | k + 1, h, hv => by
    unfold sumR
    by_cases e : a = k
    · subst e
      rw [sumR_same (R := R) a (fun i hi => up_n (by omega)), up_s]
      omega
    · have := sumR_less k (by omega) hv
      rw [up_n (f := R) (k := a) (j := k) (fun z => e z.symm)]
      omega
def JF (iv0 iv : Nat → Nat → Nat → Int32) : Prop := (∀ K, K ≠ 20 → iv K = iv0 K) ∧ (∀ a, a ≠ 59 → iv 20 a = iv0 20 a)
def JR (E : Nat) (ec em : Fn) (iv0 iv : Nat → Nat → Nat → Int32) (R : Nat → Nat) : Prop := JF iv0 iv ∧ (∀ e, e < E → iv 20 59 e = nI (R e)) ∧ (∀ e, e < E → R e ≤ e ∧ Rch E ec em e (R e))
def JP (E : Nat) (ec em : Fn) (R0 R : Nat → Nat) (more : Int32) (a b : Nat) : Prop := (more = 1 ∧ sumR R E < sumR R0 E) ∨ (more = 0 ∧ R = R0 ∧ ∀ a' b', a' < E → b' < E → (a' < a ∨ (a' = a ∧ b' < b)) → smE ec em a' b' → ¬ R b' < R a')
theorem JF.put {iv0 iv : Nat → Nat → Nat → Int32} (h : JF iv0 iv) {j : Nat} {v : Int32} : JF iv0 (u3 iv 20 59 j v) := ⟨fun K hK => by rw [u3_c hK]; exact h.1 K hK, fun a ha => by rw [u3_a ha]; exact h.2 a ha⟩
set_option maxRecDepth 100000 in
set_option maxHeartbeats 4000000 in
theorem lp_jb {d E a : Nat} {x : Int32} {R0 : Nat → Nat} {n : Nat} {kd ln : Nat → Nat} {iv0 : Nat → Nat → Nat → Int32} {rv : Nat → Nat → Nat → Nat} {Q : Rt} {bc bs : Nat} (hk : FixK kd) (hl : FixL ln) (hr : FixR rv) (hE : iv0 12 29 37 = nI E) (hE6 : E ≤ 60) (ha : a < E)
    (hc : ∀ R iv more l4, JR E (iv0 20 55) (iv0 20 56) iv0 iv R → JP E (iv0 20 55) (iv0 20 56) R0 R more (a + 1) 0 → WPc (MW (d + 3)) 112 Q 43 [some (.inr 29), some (.inl x), some (.inl more), some (.inl (nI (a + 1))), l4] [] ((n, kd, ln), iv, rv) bc bs) :
    ∀ k b R iv more, b + k = E → JR E (iv0 20 55) (iv0 20 56) iv0 iv R → JP E (iv0 20 55) (iv0 20 56) R0 R more a b → WPc (MW (d + 3)) 112 Q 54 [some (.inr 29), some (.inl x), some (.inl more), some (.inl (nI a)), some (.inl (nI b))] [] ((n, kd, ln), iv, rv) bc bs := by
  have a3 : vp_in (nI a) 60 := vp_in_nI (by omega) (by decide)
  have a4 : (nI a).toNatClampNeg = a := nI_clamp (by omega)
  intro k
  induction k with
  | zero =>
    intro b R iv more hb hJ hP
    obtain rfl : b = E := by omega
    have hE' : iv 12 29 37 = nI b := by rw [hJ.1.1 12 (by decide)]; exact hE
    rw [WP_eq, k112_54]
    simp only [e_lI0, e_lR0, e_st0, e_lI1, e_lR1, e_st1, e_lI2, e_lR2, e_st2, e_lI3, e_lR3, e_st3, e_lI4, e_lR4, e_st4, e_lI5, e_lR5, e_st5, e_lI6, e_lR6, e_st6, e_lI7, e_lR7, e_st7, e_lI8, e_lR8, e_st8, e_swn, e_swc, e_sw0, e_sw1, e_sw2, e_sw3, e_sw4, e_sw5, e_sw6, e_sw7, e_sw8, e_sw9, Option.toList_some, Option.toList_none, List.cons_append, List.nil_append, List.length_cons, List.length_nil, Nat.reduceAdd, Nat.reduceLeDiff, Nat.zero_le, Nat.le_refl, true_and, and_true, WP_eq, Nat.reduceSub, if_true, if_false, Nat.reduceEqDiff, not_false_eq_true, i_10, i_01, Int32.reduceLT, Int32.reduceLE, true_or, or_true, ne_eq, fk_2 hk, fk_8 hk, fk_11 hk, fk_20 hk, fk_29 hk, fr_12_29_45 hr, fk_59 hk, fl_59 hl, en_112, c_110, c_111, k112_0, k112_1, k112_10, k112_102, k112_104, k112_105, k112_106, k112_107, k112_108, k112_11, k112_111, k112_114, k112_117, k112_120, k112_123, k112_124, k112_127, k112_128, k112_129, k112_13, k112_14, k112_17, k112_2, k112_20, k112_21, k112_24, k112_25, k112_26, k112_27, k112_30, k112_33, k112_34, k112_36, k112_39, k112_40, k112_41, k112_42, k112_44, k112_45, k112_48, k112_5, k112_51, k112_52, k112_56, k112_57, k112_60, k112_63, k112_64, k112_67, k112_69, k112_70, k112_71, k112_74, k112_75, k112_76, k112_79, k112_8, k112_80, k112_81, k112_83, k112_86, k112_87, k112_9, k112_90, k112_93, k112_94, k112_97, k112_98, k112_99, r_112, s_aload_n, s_goto, s_iaload20, s_iastore, s_icmp_eq, s_icmp_ge, s_iconst, s_if_eq, s_if_ne, s_iinc, s_iload, s_iload_n, s_istore, s_istore_n, sg_12_37, sg_12_45, hE', nI_self_le]
    rw [← WP_eq, nI_1]
    refine hc R iv more _ hJ ?_
    rcases hP with h | ⟨h1, h2, h3⟩
    · exact Or.inl h
    · exact Or.inr ⟨h1, h2, fun a' b' ha' hb' hlt => h3 a' b' ha' hb' (by omega)⟩
  | succ k ih =>
    intro b R iv more hb hJ hP
    have hbE : b < E := by omega
    have c1 : ¬ nI E ≤ nI b := nI_ge hbE (by omega)
    have b3 : vp_in (nI b) 60 := vp_in_nI (by omega) (by decide)
    have b4 : (nI b).toNatClampNeg = b := nI_clamp (by omega)
    have hE' : iv 12 29 37 = nI E := by rw [hJ.1.1 12 (by decide)]; exact hE
    have g55 : iv 20 55 = iv0 20 55 := hJ.1.2 55 (by decide)
    have g56 : iv 20 56 = iv0 20 56 := hJ.1.2 56 (by decide)
    have ra := hJ.2.1 a ha
    have rb := hJ.2.1 b hbE
    have hRa := (hJ.2.2 a ha).1
    have hRb := (hJ.2.2 b hbE).1
    rw [WP_eq, k112_54]
    by_cases c2 : nI (R a) ≤ nI (R b)
    · simp only [e_lI0, e_lR0, e_st0, e_lI1, e_lR1, e_st1, e_lI2, e_lR2, e_st2, e_lI3, e_lR3, e_st3, e_lI4, e_lR4, e_st4, e_lI5, e_lR5, e_st5, e_lI6, e_lR6, e_st6, e_lI7, e_lR7, e_st7, e_lI8, e_lR8, e_st8, e_swn, e_swc, e_sw0, e_sw1, e_sw2, e_sw3, e_sw4, e_sw5, e_sw6, e_sw7, e_sw8, e_sw9, Option.toList_some, Option.toList_none, List.cons_append, List.nil_append, List.length_cons, List.length_nil, Nat.reduceAdd, Nat.reduceLeDiff, Nat.zero_le, Nat.le_refl, true_and, and_true, WP_eq, Nat.reduceSub, if_true, if_false, Nat.reduceEqDiff, not_false_eq_true, i_10, i_01, Int32.reduceLT, Int32.reduceLE, true_or, or_true, ne_eq, fk_2 hk, fk_8 hk, fk_11 hk, fk_20 hk, fk_29 hk, fr_12_29_45 hr, fk_59 hk, fl_59 hl, en_112, c_110, c_111, k112_0, k112_1, k112_10, k112_102, k112_104, k112_105, k112_106, k112_107, k112_108, k112_11, k112_111, k112_114, k112_117, k112_120, k112_123, k112_124, k112_127, k112_128, k112_129, k112_13, k112_14, k112_17, k112_2, k112_20, k112_21, k112_24, k112_25, k112_26, k112_27, k112_30, k112_33, k112_34, k112_36, k112_39, k112_40, k112_41, k112_42, k112_44, k112_45, k112_48, k112_5, k112_51, k112_52, k112_56, k112_57, k112_60, k112_63, k112_64, k112_67, k112_69, k112_70, k112_71, k112_74, k112_75, k112_76, k112_79, k112_8, k112_80, k112_81, k112_83, k112_86, k112_87, k112_9, k112_90, k112_93, k112_94, k112_97, k112_98, k112_99, r_112, s_aload_n, s_goto, s_iaload20, s_iastore, s_icmp_eq, s_icmp_ge, s_iconst, s_if_eq, s_if_ne, s_iinc, s_iload, s_iload_n, s_istore, s_istore_n, sg_12_37, sg_12_45, hE', c1, a3, a4, b3, b4, ra, rb, c2]
      rw [← WP_eq, nI_1]
      refine ih (b + 1) R iv more (by omega) hJ ?_
      rcases hP with h | ⟨h1, h2, h3⟩
      · exact Or.inl h
      · refine Or.inr ⟨h1, h2, fun a' b' ha' hb' hlt hs => ?_⟩
        by_cases e : a' = a ∧ b' = b
        · obtain ⟨rfl, rfl⟩ := e
          have := (nI_leI (by omega) (by omega)).mp c2
          omega
        · exact h3 a' b' ha' hb' (by omega) hs
    · have hlt : R b < R a := by
        rcases Nat.lt_or_ge (R b) (R a) with z | z
        · exact z
        · exact absurd (nI_le z (by omega)) c2
      by_cases c3 : (if iv 20 55 a = iv 20 55 b then (-1 : Int32) else cmpC 5 (iv 20 56 a) (iv 20 56 b) 0) = 1
      · have hsm : smE (iv0 20 55) (iv0 20 56) a b := by
          by_cases e : iv 20 55 a = iv 20 55 b
          · rw [if_pos e] at c3; exact absurd c3 (by decide)
          · rw [if_neg e] at c3
            rw [g55] at e
            rw [g56] at c3
            exact ⟨e, c3⟩
        simp only [e_lI0, e_lR0, e_st0, e_lI1, e_lR1, e_st1, e_lI2, e_lR2, e_st2, e_lI3, e_lR3, e_st3, e_lI4, e_lR4, e_st4, e_lI5, e_lR5, e_st5, e_lI6, e_lR6, e_st6, e_lI7, e_lR7, e_st7, e_lI8, e_lR8, e_st8, e_swn, e_swc, e_sw0, e_sw1, e_sw2, e_sw3, e_sw4, e_sw5, e_sw6, e_sw7, e_sw8, e_sw9, Option.toList_some, Option.toList_none, List.cons_append, List.nil_append, List.length_cons, List.length_nil, Nat.reduceAdd, Nat.reduceLeDiff, Nat.zero_le, Nat.le_refl, true_and, and_true, WP_eq, Nat.reduceSub, if_true, if_false, Nat.reduceEqDiff, not_false_eq_true, i_10, i_01, Int32.reduceLT, Int32.reduceLE, true_or, or_true, ne_eq, fk_2 hk, fk_8 hk, fk_11 hk, fk_20 hk, fk_29 hk, fr_12_29_45 hr, fk_59 hk, fl_59 hl, en_112, c_110, c_111, k112_0, k112_1, k112_10, k112_102, k112_104, k112_105, k112_106, k112_107, k112_108, k112_11, k112_111, k112_114, k112_117, k112_120, k112_123, k112_124, k112_127, k112_128, k112_129, k112_13, k112_14, k112_17, k112_2, k112_20, k112_21, k112_24, k112_25, k112_26, k112_27, k112_30, k112_33, k112_34, k112_36, k112_39, k112_40, k112_41, k112_42, k112_44, k112_45, k112_48, k112_5, k112_51, k112_52, k112_56, k112_57, k112_60, k112_63, k112_64, k112_67, k112_69, k112_70, k112_71, k112_74, k112_75, k112_76, k112_79, k112_8, k112_80, k112_81, k112_83, k112_86, k112_87, k112_9, k112_90, k112_93, k112_94, k112_97, k112_98, k112_99, r_112, s_aload_n, s_goto, s_iaload20, s_iastore, s_icmp_eq, s_icmp_ge, s_iconst, s_if_eq, s_if_ne, s_iinc, s_iload, s_iload_n, s_istore, s_istore_n, sg_12_37, sg_12_45, hE', c1, a3, a4, b3, b4, ra, rb, c2, L_same hk hl hr hE' hE6 ha hbE, eq_true c3]
        rw [← WP_eq, nI_1]
        refine ih (b + 1) (va_up R a (R b)) _ 1 (by omega) ⟨hJ.1.put, fun e he => ?_, fun e he => ?_⟩ (Or.inl ⟨rfl, ?_⟩)
        · by_cases q : e = a
          · subst q
            rw [u3_s, up_s]
          · rw [u3_j q, up_n q]
            exact hJ.2.1 e he
        · by_cases q : e = a
          · subst q
            rw [up_s]
            refine ⟨by omega, fun g hg => ?_⟩
            rw [hg e b he hbE hsm]
            exact (hJ.2.2 b hbE).2 g hg
          · rw [up_n q]
            exact hJ.2.2 e he
        · have hl := sumR_less (R := R) (a := a) (v := R b) E ha hlt
          rcases hP with h | ⟨h1, h2, h3⟩
          · omega
          · rw [h2] at hl ⊢; exact hl
      · simp only [e_lI0, e_lR0, e_st0, e_lI1, e_lR1, e_st1, e_lI2, e_lR2, e_st2, e_lI3, e_lR3, e_st3, e_lI4, e_lR4, e_st4, e_lI5, e_lR5, e_st5, e_lI6, e_lR6, e_st6, e_lI7, e_lR7, e_st7, e_lI8, e_lR8, e_st8, e_swn, e_swc, e_sw0, e_sw1, e_sw2, e_sw3, e_sw4, e_sw5, e_sw6, e_sw7, e_sw8, e_sw9, Option.toList_some, Option.toList_none, List.cons_append, List.nil_append, List.length_cons, List.length_nil, Nat.reduceAdd, Nat.reduceLeDiff, Nat.zero_le, Nat.le_refl, true_and, and_true, WP_eq, Nat.reduceSub, if_true, if_false, Nat.reduceEqDiff, not_false_eq_true, i_10, i_01, Int32.reduceLT, Int32.reduceLE, true_or, or_true, ne_eq, fk_2 hk, fk_8 hk, fk_11 hk, fk_20 hk, fk_29 hk, fr_12_29_45 hr, fk_59 hk, fl_59 hl, en_112, c_110, c_111, k112_0, k112_1, k112_10, k112_102, k112_104, k112_105, k112_106, k112_107, k112_108, k112_11, k112_111, k112_114, k112_117, k112_120, k112_123, k112_124, k112_127, k112_128, k112_129, k112_13, k112_14, k112_17, k112_2, k112_20, k112_21, k112_24, k112_25, k112_26, k112_27, k112_30, k112_33, k112_34, k112_36, k112_39, k112_40, k112_41, k112_42, k112_44, k112_45, k112_48, k112_5, k112_51, k112_52, k112_56, k112_57, k112_60, k112_63, k112_64, k112_67, k112_69, k112_70, k112_71, k112_74, k112_75, k112_76, k112_79, k112_8, k112_80, k112_81, k112_83, k112_86, k112_87, k112_9, k112_90, k112_93, k112_94, k112_97, k112_98, k112_99, r_112, s_aload_n, s_goto, s_iaload20, s_iastore, s_icmp_eq, s_icmp_ge, s_iconst, s_if_eq, s_if_ne, s_iinc, s_iload, s_iload_n, s_istore, s_istore_n, sg_12_37, sg_12_45, hE', c1, a3, a4, b3, b4, ra, rb, c2, L_same hk hl hr hE' hE6 ha hbE, eq_false c3]
        rw [← WP_eq, nI_1]
        refine ih (b + 1) R iv more (by omega) hJ ?_
        rcases hP with h | ⟨h1, h2, h3⟩
        · exact Or.inl h
        · refine Or.inr ⟨h1, h2, fun a' b' ha' hb' hlt' hs => ?_⟩
          by_cases e : a' = a ∧ b' = b
          · obtain ⟨rfl, rfl⟩ := e
            refine absurd ?_ c3
            rw [g55, g56, if_neg hs.1]
            exact hs.2
          · exact h3 a' b' ha' hb' (by omega) hs
