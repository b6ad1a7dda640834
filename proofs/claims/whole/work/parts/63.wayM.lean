/-! the reference: one way after another -/
theorem MI.good {V : Nat} {vw : Fn} {w : Int32} {many : Nat → Nat} {cost : Nat → Nat → Nat} {N K : Nat} {bm bf bc : Int32} (h : MI V vw w many cost N bm bf bc K) (hn : NP V vw w many N K) (hN6 : N ≤ 6) (hc : ∀ k v, k < N → v < V → cost k v ≤ 99) :
    (nI (mn V N K) < bm → MI V vw w many cost N bm bf bc (K + 1)) ∧ (nI (mn V N K) = bm → ¬ nI (fA V cost N K N) < bf → MI V vw w many cost N bm bf bc (K + 1)) ∧ (¬ nI (mn V N K) < bm → (¬ nI (mn V N K) = bm ∨ nI (fA V cost N K N) < bf) → MI V vw w many cost N (nI (mn V N K)) (nI (fA V cost N K N)) (nI K) (K + 1)) := by
  have m6 : ∀ c, mn V N c ≤ 6 := fun c => by unfold mn; omega
  have f6 : ∀ c, fA V cost N c N ≤ 594 := fun c => by
    have := fA_bd (V := V) (cost := cost) (n := N) (p := c) (Nat.le_refl N) hc
    omega
  have mK := m6 K
  have fK := f6 K
  rcases h with ⟨h1, h2⟩ | ⟨cb, h1, h2, h3, h4, h5, h6⟩
  · subst h1
    have e1 : ¬ nI (mn V N K) < -1 := by
      rw [Int32.lt_iff_toInt_lt, nI_toInt (by omega)]
      show ¬ ((mn V N K : Nat) : Int) < -1
      omega
    refine ⟨fun z => absurd z e1, fun z _ => absurd z (nI_m1 (by omega)), fun _ _ => Or.inr ⟨K, by omega, hn, rfl, rfl, rfl, fun c hc' hg => ?_⟩⟩
    by_cases e : c = K
    · subst e
      exact Or.inr ⟨rfl, Or.inr ⟨rfl, Nat.le_refl _⟩⟩
    · exact absurd hg (h2 c (by omega))
  · have mb := m6 cb
    have fb := f6 cb
    have same : (mn V N K < mn V N cb ∨ (mn V N K = mn V N cb ∧ fA V cost N cb N ≤ fA V cost N K N)) → MI V vw w many cost N bm bf bc (K + 1) := fun z => by
      refine Or.inr ⟨cb, by omega, h2, h3, h4, h5, fun c hc' hg => ?_⟩
      by_cases e : c = K
      · subst e
        omega
      · exact h6 c (by omega) hg
    subst h3 h4
    refine ⟨fun z => same (Or.inl ((nI_ltI (by omega) (by omega)).mp z)), fun z z2 => same (Or.inr ⟨(nI_eq (by omega) (by omega)).mp z, ?_⟩), fun z z2 => Or.inr ⟨K, by omega, hn, rfl, rfl, rfl, fun c hc' hg => ?_⟩⟩
    · rcases Nat.lt_or_ge (fA V cost N K N) (fA V cost N cb N) with q | q
      · exact absurd (nI_lt q (by omega)) z2
      · exact q
    · have q1 : mn V N cb ≤ mn V N K := by
        rcases Nat.lt_or_ge (mn V N K) (mn V N cb) with q | q
        · exact absurd (nI_lt q (by omega)) z
        · exact q
      have q2 : mn V N cb < mn V N K ∨ fA V cost N K N < fA V cost N cb N := by
        rcases z2 with q | q
        · left
          rcases Nat.lt_or_ge (mn V N cb) (mn V N K) with q' | q'
          · exact q'
          · exact absurd (show nI (mn V N K) = nI (mn V N cb) by rw [show mn V N K = mn V N cb by omega]) q
        · exact Or.inr ((nI_ltI (by omega) (by omega)).mp q)
      by_cases e : c = K
      · subst e
        exact Or.inr ⟨rfl, Or.inr ⟨rfl, Nat.le_refl _⟩⟩
      · have := h6 c (by omega) hg
        omega
def ZL (iv0 iv : Nat → Nat → Nat → Int32) : Prop := (∀ K, K ≠ 20 → iv K = iv0 K) ∧ (∀ a, a ≠ 58 → iv 20 a = iv0 20 a)
theorem ZL.put {iv0 iv : Nat → Nat → Nat → Int32} {j : Nat} {x : Int32} (h : ZL iv0 iv) : ZL iv0 (u3 iv 20 58 j x) := ⟨fun K k1 => by rw [u3_c k1]; exact h.1 K k1, fun a a1 => by rw [u3_a a1]; exact h.2 a a1⟩
set_option maxRecDepth 100000 in
set_option maxHeartbeats 4000000 in
theorem lp_load {d : Nat} {c m w : Int32} {l5 l6 l7 l8 : LV} {n : Nat} {kd ln : Nat → Nat} {iv0 : Nat → Nat → Nat → Int32} {rv : Nat → Nat → Nat → Nat} {Q : Rt} {bc bs : Nat} (hk : FixK kd) (hl : FixL ln) (hr : FixR rv) (hQ : ∀ iv', ZL iv0 iv' → (∀ v, v < 5 → iv' 20 58 v = 0) → WPc (MW d) 106 Q 23 [some (.inr 29), some (.inl c), some (.inl m), some (.inl w), some (.inl (nI 5)), l5, l6, l7, l8] [] ((n, kd, ln), iv', rv) bc bs) :
    ∀ k i iv, i + k = 5 → ZL iv0 iv → (∀ v, v < i → iv 20 58 v = 0) → WPc (MW d) 106 Q 3 [some (.inr 29), some (.inl c), some (.inl m), some (.inl w), some (.inl (nI i)), l5, l6, l7, l8] [] ((n, kd, ln), iv, rv) bc bs := by
  intro k
  induction k with
  | zero =>
    intro i iv hi hF hA
    obtain rfl : i = 5 := by omega
    have c1 : (4 : Int32) < nI 5 := by decide
    rw [WP_eq, k106_3]
    simp only [e_lI0, e_lR0, e_st0, e_lI1, e_lR1, e_st1, e_lI2, e_lR2, e_st2, e_lI3, e_lR3, e_st3, e_lI4, e_lR4, e_st4, e_lI5, e_lR5, e_st5, e_lI6, e_lR6, e_st6, e_lI7, e_lR7, e_st7, e_lI8, e_lR8, e_st8, e_swn, e_swc, e_sw0, e_sw1, e_sw2, e_sw3, e_sw4, e_sw5, e_sw6, e_sw7, e_sw8, e_sw9, Option.toList_some, Option.toList_none, List.cons_append, List.nil_append, List.length_cons, List.length_nil, Nat.reduceAdd, Nat.reduceLeDiff, Nat.zero_le, Nat.le_refl, true_and, and_true, WP_eq, Nat.reduceSub, if_true, if_false, Nat.reduceEqDiff, not_false_eq_true, i_10, i_01, Int32.reduceLT, Int32.reduceLE, true_or, or_true, ne_eq, fk_2 hk, fk_8 hk, fk_11 hk, fk_20 hk, fk_29 hk, fr_12_29_41 hr, fk_58 hk, fl_58 hl, fr_12_29_34 hr, fk_52 hk, fl_52 hl, fr_12_29_36 hr, fk_54 hk, fl_54 hl, fr_12_29_35 hr, fk_53 hk, fl_53 hl, fr_12_29_13 hr, fk_39 hk, fl_39 hl, fr_12_29_40 hr, fk_57 hk, fl_57 hl, en_106, k106_0, k106_1, k106_10, k106_102, k106_104, k106_105, k106_106, k106_109, k106_111, k106_112, k106_115, k106_116, k106_119, k106_121, k106_122, k106_125, k106_127, k106_128, k106_129, k106_13, k106_132, k106_133, k106_136, k106_138, k106_139, k106_140, k106_143, k106_144, k106_147, k106_148, k106_15, k106_151, k106_153, k106_154, k106_155, k106_156, k106_159, k106_16, k106_161, k106_162, k106_163, k106_166, k106_167, k106_17, k106_170, k106_172, k106_173, k106_174, k106_177, k106_178, k106_181, k106_183, k106_184, k106_185, k106_186, k106_187, k106_189, k106_197, k106_198, k106_20, k106_201, k106_204, k106_206, k106_207, k106_210, k106_213, k106_215, k106_216, k106_219, k106_222, k106_223, k106_224, k106_226, k106_229, k106_230, k106_232, k106_235, k106_236, k106_237, k106_24, k106_240, k106_26, k106_27, k106_29, k106_30, k106_32, k106_33, k106_34, k106_35, k106_39, k106_42, k106_44, k106_45, k106_48, k106_49, k106_5, k106_50, k106_51, k106_53, k106_55, k106_56, k106_59, k106_6, k106_60, k106_61, k106_62, k106_64, k106_66, k106_67, k106_70, k106_73, k106_76, k106_77, k106_80, k106_82, k106_83, k106_84, k106_85, k106_86, k106_87, k106_88, k106_9, k106_91, k106_93, k106_94, k106_95, k106_98, k106_99, s_aload_n, s_dup2, s_goto, s_iadd, s_iaload20, s_iastore, s_icmp_ge, s_icmp_gt, s_icmp_le, s_icmp_lt, s_icmp_ne, s_iconst, s_idiv, s_if_lt, s_iinc, s_iload, s_iload_n, s_irem, s_istore, s_isub, s_return, sg_12_13, sg_12_33, sg_12_34, sg_12_35, sg_12_36, sg_12_40, sg_12_41, sg_12_43, sg_12_44, sp_12_42, sp_12_43, sp_12_44, c1]
    rw [← WP_eq]
    exact hQ iv hF hA
  | succ k ih =>
    intro i iv hi hF hA
    have c1 : ¬ (4 : Int32) < nI i := nI_nlt (a := 4) (by omega) (by decide)
    have q3 : vp_in (nI i) 5 := vp_in_nI (by omega) (by decide)
    have q4 : (nI i).toNatClampNeg = i := nI_clamp (by omega)
    rw [WP_eq, k106_3]
    simp only [e_lI0, e_lR0, e_st0, e_lI1, e_lR1, e_st1, e_lI2, e_lR2, e_st2, e_lI3, e_lR3, e_st3, e_lI4, e_lR4, e_st4, e_lI5, e_lR5, e_st5, e_lI6, e_lR6, e_st6, e_lI7, e_lR7, e_st7, e_lI8, e_lR8, e_st8, e_swn, e_swc, e_sw0, e_sw1, e_sw2, e_sw3, e_sw4, e_sw5, e_sw6, e_sw7, e_sw8, e_sw9, Option.toList_some, Option.toList_none, List.cons_append, List.nil_append, List.length_cons, List.length_nil, Nat.reduceAdd, Nat.reduceLeDiff, Nat.zero_le, Nat.le_refl, true_and, and_true, WP_eq, Nat.reduceSub, if_true, if_false, Nat.reduceEqDiff, not_false_eq_true, i_10, i_01, Int32.reduceLT, Int32.reduceLE, true_or, or_true, ne_eq, fk_2 hk, fk_8 hk, fk_11 hk, fk_20 hk, fk_29 hk, fr_12_29_41 hr, fk_58 hk, fl_58 hl, fr_12_29_34 hr, fk_52 hk, fl_52 hl, fr_12_29_36 hr, fk_54 hk, fl_54 hl, fr_12_29_35 hr, fk_53 hk, fl_53 hl, fr_12_29_13 hr, fk_39 hk, fl_39 hl, fr_12_29_40 hr, fk_57 hk, fl_57 hl, en_106, k106_0, k106_1, k106_10, k106_102, k106_104, k106_105, k106_106, k106_109, k106_111, k106_112, k106_115, k106_116, k106_119, k106_121, k106_122, k106_125, k106_127, k106_128, k106_129, k106_13, k106_132, k106_133, k106_136, k106_138, k106_139, k106_140, k106_143, k106_144, k106_147, k106_148, k106_15, k106_151, k106_153, k106_154, k106_155, k106_156, k106_159, k106_16, k106_161, k106_162, k106_163, k106_166, k106_167, k106_17, k106_170, k106_172, k106_173, k106_174, k106_177, k106_178, k106_181, k106_183, k106_184, k106_185, k106_186, k106_187, k106_189, k106_197, k106_198, k106_20, k106_201, k106_204, k106_206, k106_207, k106_210, k106_213, k106_215, k106_216, k106_219, k106_222, k106_223, k106_224, k106_226, k106_229, k106_230, k106_232, k106_235, k106_236, k106_237, k106_24, k106_240, k106_26, k106_27, k106_29, k106_30, k106_32, k106_33, k106_34, k106_35, k106_39, k106_42, k106_44, k106_45, k106_48, k106_49, k106_5, k106_50, k106_51, k106_53, k106_55, k106_56, k106_59, k106_6, k106_60, k106_61, k106_62, k106_64, k106_66, k106_67, k106_70, k106_73, k106_76, k106_77, k106_80, k106_82, k106_83, k106_84, k106_85, k106_86, k106_87, k106_88, k106_9, k106_91, k106_93, k106_94, k106_95, k106_98, k106_99, s_aload_n, s_dup2, s_goto, s_iadd, s_iaload20, s_iastore, s_icmp_ge, s_icmp_gt, s_icmp_le, s_icmp_lt, s_icmp_ne, s_iconst, s_idiv, s_if_lt, s_iinc, s_iload, s_iload_n, s_irem, s_istore, s_isub, s_return, sg_12_13, sg_12_33, sg_12_34, sg_12_35, sg_12_36, sg_12_40, sg_12_41, sg_12_43, sg_12_44, sp_12_42, sp_12_43, sp_12_44, c1, q3, q4]
    rw [← WP_eq, nI_1]
    refine ih (i + 1) _ (by omega) hF.put (fun v hv => ?_)
    by_cases e : v = i
    · rw [e, u3_s]
    · rw [u3_j e]; exact hA v (by omega)
def WM (V : Nat) (many hp vp hn : Nat → Nat) (N : Nat) (iv : Nat → Nat → Nat → Int32) : Prop := (iv 12 29 33 = nI V ∧ V ≤ 4 ∧ N ≤ 6) ∧ (∀ v, v < V → iv 20 53 v = nI (vp v) ∧ vp v < 100 ∧ iv 20 54 v = nI (many v) ∧ many v ≤ 8) ∧ (∀ k, k < N → iv 20 57 k = nI (hn k) ∧ hn k < 30 ∧ iv 20 39 (hn k) = nI (hp k) ∧ hp k < 100)
theorem cN_s {B n p v j : Nat} : cN B n p v (j + 1) = cN B n p v j + (if dgg B n p j = v then 1 else 0) := rfl
theorem fA_s {V n p j : Nat} {cost : Nat → Nat → Nat} : fA V cost n p (j + 1) = fA V cost n p j + (if dgg (V + 1) n p j = V then 0 else cost j (dgg (V + 1) n p j)) := rfl
theorem cN_df {B n p v i : Nat} : ∀ j, i ≤ j → cN B n p v j ≤ cN B n p v i + (j - i)
  | 0, h => by
    obtain rfl : i = 0 := by omega
    omega
  | j + 1, h => by
    by_cases e : i = j + 1
    · rw [e]; omega
    · have h1 := cN_df (B := B) (n := n) (p := p) (v := v) (i := i) j (by omega)
      rw [cN_s]
      by_cases q : dgg B n p j = v
      · rw [if_pos q]; omega
      · rw [if_neg q]; omega
theorem cN_mono {B n p v i j : Nat} (h : i ≤ j) : cN B n p v i ≤ cN B n p v j := sumR_le j h
theorem fA_mono {V n p i j : Nat} {cost : Nat → Nat → Nat} (h : i ≤ j) : fA V cost n p i ≤ fA V cost n p j := sumR_le j h
set_option maxRecDepth 100000 in
set_option maxHeartbeats 4000000 in
theorem lp_wayM {d V N c : Nat} {w : Int32} {many hp vp hn : Nat → Nat} {n : Nat} {kd ln : Nat → Nat} {iv0 : Nat → Nat → Nat → Int32} {rv : Nat → Nat → Nat → Nat} {Q : Rt} {bc bs : Nat} (hk : FixK kd) (hl : FixL ln) (hr : FixR rv) (hW : WM V many hp vp hn N iv0) (hc31 : c < 2 ^ 31)
    (hQ1 : ¬ NP V (iv0 20 52) w many N c → ∀ iv', ZL iv0 iv' → Q none ((n, kd, ln), iv', rv))
    (hQ2 : NP V (iv0 20 52) w many N c → ∀ iv' l4 l7 l8, ZL iv0 iv' → WPc (MW d) 106 Q 195 [some (.inr 29), some (.inl (nI c)), some (.inl (nI N)), some (.inl w), l4, some (.inl (nI (mn V N c))), some (.inl (nI (fA V (fun k v => dst (hp k) (vp v)) N c N))), l7, l8] [] ((n, kd, ln), iv', rv) bc bs) :
    ∀ kk x R m f iv l8, kk ≤ N → x = nI kk - 1 → R = c / (V + 1) ^ (N - kk) → m = N - kk - (cN (V + 1) N c V N - cN (V + 1) N c V kk) → f = fA V (fun k v => dst (hp k) (vp v)) N c N - fA V (fun k v => dst (hp k) (vp v)) N c kk → ZL iv0 iv → (∀ v, v < V → iv 20 58 v = nI (cN (V + 1) N c v N - cN (V + 1) N c v kk) ∧ cN (V + 1) N c v N - cN (V + 1) N c v kk ≤ many v) → (∀ k, kk ≤ k → k < N → dgg (V + 1) N c k = V ∨ iv0 20 52 (dgg (V + 1) N c k) = w) →
      WPc (MW d) 106 Q 37 [some (.inr 29), some (.inl (nI c)), some (.inl (nI N)), some (.inl w), some (.inl (nI R)), some (.inl (nI m)), some (.inl (nI f)), some (.inl x), l8] [] ((n, kd, ln), iv, rv) bc bs := by
  obtain ⟨⟨wV, wV4, wN6⟩, wv, wk⟩ := id hW
  intro kk
  induction kk with
  | zero =>
    intro x R m f iv l8 hkk hx hR hm hf hZ hA hD
    have c1 : x < 0 := by rw [hx]; decide
    have z0 : ∀ v, cN (V + 1) N c v 0 = 0 := fun v => rfl
    have y0 : fA V (fun k v => dst (hp k) (vp v)) N c 0 = 0 := rfl
    have hnp : NP V (iv0 20 52) w many N c := ⟨fun k hk' => hD k (Nat.zero_le _) hk', fun v hv => by have := (hA v hv).2; rw [z0] at this; omega⟩
    rw [WP_eq, k106_37]
    simp only [e_lI0, e_lR0, e_st0, e_lI1, e_lR1, e_st1, e_lI2, e_lR2, e_st2, e_lI3, e_lR3, e_st3, e_lI4, e_lR4, e_st4, e_lI5, e_lR5, e_st5, e_lI6, e_lR6, e_st6, e_lI7, e_lR7, e_st7, e_lI8, e_lR8, e_st8, e_swn, e_swc, e_sw0, e_sw1, e_sw2, e_sw3, e_sw4, e_sw5, e_sw6, e_sw7, e_sw8, e_sw9, Option.toList_some, Option.toList_none, List.cons_append, List.nil_append, List.length_cons, List.length_nil, Nat.reduceAdd, Nat.reduceLeDiff, Nat.zero_le, Nat.le_refl, true_and, and_true, WP_eq, Nat.reduceSub, if_true, if_false, Nat.reduceEqDiff, not_false_eq_true, i_10, i_01, Int32.reduceLT, Int32.reduceLE, true_or, or_true, ne_eq, fk_2 hk, fk_8 hk, fk_11 hk, fk_20 hk, fk_29 hk, fr_12_29_41 hr, fk_58 hk, fl_58 hl, fr_12_29_34 hr, fk_52 hk, fl_52 hl, fr_12_29_36 hr, fk_54 hk, fl_54 hl, fr_12_29_35 hr, fk_53 hk, fl_53 hl, fr_12_29_13 hr, fk_39 hk, fl_39 hl, fr_12_29_40 hr, fk_57 hk, fl_57 hl, en_106, k106_0, k106_1, k106_10, k106_102, k106_104, k106_105, k106_106, k106_109, k106_111, k106_112, k106_115, k106_116, k106_119, k106_121, k106_122, k106_125, k106_127, k106_128, k106_129, k106_13, k106_132, k106_133, k106_136, k106_138, k106_139, k106_140, k106_143, k106_144, k106_147, k106_148, k106_15, k106_151, k106_153, k106_154, k106_155, k106_156, k106_159, k106_16, k106_161, k106_162, k106_163, k106_166, k106_167, k106_17, k106_170, k106_172, k106_173, k106_174, k106_177, k106_178, k106_181, k106_183, k106_184, k106_185, k106_186, k106_187, k106_189, k106_197, k106_198, k106_20, k106_201, k106_204, k106_206, k106_207, k106_210, k106_213, k106_215, k106_216, k106_219, k106_222, k106_223, k106_224, k106_226, k106_229, k106_230, k106_232, k106_235, k106_236, k106_237, k106_24, k106_240, k106_26, k106_27, k106_29, k106_30, k106_32, k106_33, k106_34, k106_35, k106_39, k106_42, k106_44, k106_45, k106_48, k106_49, k106_5, k106_50, k106_51, k106_53, k106_55, k106_56, k106_59, k106_6, k106_60, k106_61, k106_62, k106_64, k106_66, k106_67, k106_70, k106_73, k106_76, k106_77, k106_80, k106_82, k106_83, k106_84, k106_85, k106_86, k106_87, k106_88, k106_9, k106_91, k106_93, k106_94, k106_95, k106_98, k106_99, s_aload_n, s_dup2, s_goto, s_iadd, s_iaload20, s_iastore, s_icmp_ge, s_icmp_gt, s_icmp_le, s_icmp_lt, s_icmp_ne, s_iconst, s_idiv, s_if_lt, s_iinc, s_iload, s_iload_n, s_irem, s_istore, s_isub, s_return, sg_12_13, sg_12_33, sg_12_34, sg_12_35, sg_12_36, sg_12_40, sg_12_41, sg_12_43, sg_12_44, sp_12_42, sp_12_43, sp_12_44, c1]
    rw [← WP_eq, hm, hf, z0, y0, Nat.sub_zero, Nat.sub_zero, Nat.sub_zero]
    exact hQ2 hnp iv _ _ _ hZ
  | succ j ih =>
    intro x R m f iv l8 hkk hx hR hm hf hZ hA hD
    rw [nI_pred] at hx
    subst hx
    have hjN : j < N := by omega
    have c1 : ¬ nI j < 0 := nI_pos (by omega)
    have gV : iv 12 29 33 = nI V := by rw [hZ.1 12 (by decide)]; exact wV
    have hRl : R ≤ c := by rw [hR]; exact Nat.div_le_self _ _
    obtain ⟨D, hDD⟩ : ∃ D, D = dgg (V + 1) N c j := ⟨_, rfl⟩
    have eD : R % (V + 1) = D := by
      rw [hDD, hR]
      unfold dgg
      rw [show N - (j + 1) = N - 1 - j by omega]
    have hDl : D < V + 1 := by rw [hDD]; exact dgg_lt
    have er : rmd (nI R) (nI (V + 1)) = nI D := by
      unfold rmd
      rw [pk_rem (by omega) (by omega) (by omega), eD]
    have ed : nI R / nI (V + 1) = nI (R / (V + 1)) := pk_div (by omega) (by omega) (by omega)
    have eR : R / (V + 1) = c / (V + 1) ^ (N - j) := by
      rw [hR, Nat.div_div_eq_div_mul, ← Nat.pow_succ, show (N - (j + 1)).succ = N - j by omega]
    have e1 : nI V + 1 = nI (V + 1) := nI_1 V
    have e0 : ¬ nI (V + 1) = 0 := nI_ne0 (by omega) (by omega)
    have sN : ∀ v, cN (V + 1) N c v (j + 1) = cN (V + 1) N c v j + (if D = v then 1 else 0) := fun v => by rw [hDD]; exact cN_s
    have sF : fA V (fun k v => dst (hp k) (vp v)) N c (j + 1) = fA V (fun k v => dst (hp k) (vp v)) N c j + (if D = V then 0 else dst (hp j) (vp D)) := by rw [hDD]; exact fA_s
    have lN' : ∀ v, cN (V + 1) N c v (j + 1) ≤ cN (V + 1) N c v N := fun v => cN_mono (by omega)
    have lF := fA_mono (V := V) (cost := fun k v => dst (hp k) (vp v)) (n := N) (p := c) (show j + 1 ≤ N by omega)
    have lV := cN_df (B := V + 1) (n := N) (p := c) (v := V) (i := j + 1) N (by omega)
    have hcN : ∀ v, cN (V + 1) N c v N ≤ 6 := fun v => Nat.le_trans (cN_le N) wN6
    rw [WP_eq, k106_37]
    by_cases c2 : D = V
    · have c3 : nI D = nI V := by rw [c2]
      simp only [e_lI0, e_lR0, e_st0, e_lI1, e_lR1, e_st1, e_lI2, e_lR2, e_st2, e_lI3, e_lR3, e_st3, e_lI4, e_lR4, e_st4, e_lI5, e_lR5, e_st5, e_lI6, e_lR6, e_st6, e_lI7, e_lR7, e_st7, e_lI8, e_lR8, e_st8, e_swn, e_swc, e_sw0, e_sw1, e_sw2, e_sw3, e_sw4, e_sw5, e_sw6, e_sw7, e_sw8, e_sw9, Option.toList_some, Option.toList_none, List.cons_append, List.nil_append, List.length_cons, List.length_nil, Nat.reduceAdd, Nat.reduceLeDiff, Nat.zero_le, Nat.le_refl, true_and, and_true, WP_eq, Nat.reduceSub, if_true, if_false, Nat.reduceEqDiff, not_false_eq_true, i_10, i_01, Int32.reduceLT, Int32.reduceLE, true_or, or_true, ne_eq, fk_2 hk, fk_8 hk, fk_11 hk, fk_20 hk, fk_29 hk, fr_12_29_41 hr, fk_58 hk, fl_58 hl, fr_12_29_34 hr, fk_52 hk, fl_52 hl, fr_12_29_36 hr, fk_54 hk, fl_54 hl, fr_12_29_35 hr, fk_53 hk, fl_53 hl, fr_12_29_13 hr, fk_39 hk, fl_39 hl, fr_12_29_40 hr, fk_57 hk, fl_57 hl, en_106, k106_0, k106_1, k106_10, k106_102, k106_104, k106_105, k106_106, k106_109, k106_111, k106_112, k106_115, k106_116, k106_119, k106_121, k106_122, k106_125, k106_127, k106_128, k106_129, k106_13, k106_132, k106_133, k106_136, k106_138, k106_139, k106_140, k106_143, k106_144, k106_147, k106_148, k106_15, k106_151, k106_153, k106_154, k106_155, k106_156, k106_159, k106_16, k106_161, k106_162, k106_163, k106_166, k106_167, k106_17, k106_170, k106_172, k106_173, k106_174, k106_177, k106_178, k106_181, k106_183, k106_184, k106_185, k106_186, k106_187, k106_189, k106_197, k106_198, k106_20, k106_201, k106_204, k106_206, k106_207, k106_210, k106_213, k106_215, k106_216, k106_219, k106_222, k106_223, k106_224, k106_226, k106_229, k106_230, k106_232, k106_235, k106_236, k106_237, k106_24, k106_240, k106_26, k106_27, k106_29, k106_30, k106_32, k106_33, k106_34, k106_35, k106_39, k106_42, k106_44, k106_45, k106_48, k106_49, k106_5, k106_50, k106_51, k106_53, k106_55, k106_56, k106_59, k106_6, k106_60, k106_61, k106_62, k106_64, k106_66, k106_67, k106_70, k106_73, k106_76, k106_77, k106_80, k106_82, k106_83, k106_84, k106_85, k106_86, k106_87, k106_88, k106_9, k106_91, k106_93, k106_94, k106_95, k106_98, k106_99, s_aload_n, s_dup2, s_goto, s_iadd, s_iaload20, s_iastore, s_icmp_ge, s_icmp_gt, s_icmp_le, s_icmp_lt, s_icmp_ne, s_iconst, s_idiv, s_if_lt, s_iinc, s_iload, s_iload_n, s_irem, s_istore, s_isub, s_return, sg_12_13, sg_12_33, sg_12_34, sg_12_35, sg_12_36, sg_12_40, sg_12_41, sg_12_43, sg_12_44, sp_12_42, sp_12_43, sp_12_44, c1, gV, e1, e0, er, ed, c3]
      rw [k106_192, s_goto]
      have sV := sN V
      have lV' := lN' V
      rw [if_pos c2] at sV sF
      refine ih _ _ _ _ _ _ (by omega) i_sm eR (by omega) (by omega) hZ (fun v hv => ?_) (fun k h1 h2 => ?_)
      · have h1 : cN (V + 1) N c v j = cN (V + 1) N c v (j + 1) := by
          rw [sN v, if_neg (by omega)]
          omega
        rw [h1]
        exact hA v hv
      · by_cases e : k = j
        · rw [e, ← hDD]; exact Or.inl c2
        · exact hD k (by omega) h2
    · have hDV : D < V := by omega
      have c3 : ¬ nI D = nI V := fun z => c2 ((nI_eq (by omega) (by omega)).mp z)
      have v5 : vp_in (nI D) 5 := vp_in_nI (by omega) (by decide)
      have v4 : vp_in (nI D) 4 := vp_in_nI (by omega) (by decide)
      have vD : (nI D).toNatClampNeg = D := nI_clamp (by omega)
      have v6 : vp_in (nI j) 6 := vp_in_nI (by omega) (by decide)
      have vj : (nI j).toNatClampNeg = j := nI_clamp (by omega)
      obtain ⟨w1, w2, w3, w4⟩ := wv D hDV
      obtain ⟨k1, k2, k3, k4⟩ := wk j hjN
      have vh3 : vp_in (nI (hn j)) 30 := vp_in_nI k2 (by decide)
      have vhn : (nI (hn j)).toNatClampNeg = hn j := nI_clamp (by omega)
      obtain ⟨a1, a2⟩ := hA D hDV
      have sD := sN D
      rw [if_pos rfl] at sD
      have lD := lN' D
      have eL : nI (cN (V + 1) N c D N - cN (V + 1) N c D (j + 1)) + 1 = nI (cN (V + 1) N c D N - cN (V + 1) N c D j) := by rw [nI_1]; congr 1; omega
      have b52 : iv 20 52 D = iv0 20 52 D := by rw [hZ.2 52 (by decide)]
      have b53 : iv 20 53 D = nI (vp D) := by rw [hZ.2 53 (by decide)]; exact w1
      have b54 : iv 20 54 D = nI (many D) := by rw [hZ.2 54 (by decide)]; exact w3
      have b57 : iv 20 57 j = nI (hn j) := by rw [hZ.2 57 (by decide)]; exact k1
      have b39 : iv 20 39 (hn j) = nI (hp j) := by rw [hZ.2 39 (by decide)]; exact k3
      by_cases c4 : iv0 20 52 D = w
      · by_cases c5 : cN (V + 1) N c D N - cN (V + 1) N c D j ≤ many D
        · have c6 : nI (cN (V + 1) N c D N - cN (V + 1) N c D j) ≤ nI (many D) := nI_le c5 (by omega)
          have sV := sN V
          have lV' := lN' V
          rw [if_neg c2] at sV
          rw [if_neg c2] at sF
          have hfin : ∀ y, y = nI (dst (hp j) (vp D)) → WPc (MW d) 106 Q 37 [some (.inr 29), some (.inl (nI c)), some (.inl (nI N)), some (.inl w), some (.inl (nI (R / (V + 1)))), some (.inl (nI m + 1)), some (.inl (nI f + y)), some (.inl (nI j + (-1))), some (.inl (nI D))] [] ((n, kd, ln), u3 iv 20 58 D (nI (cN (V + 1) N c D N - cN (V + 1) N c D j)), rv) bc bs := fun y hy => by
            rw [hy, nI_1, nI_add]
            refine ih _ _ _ _ _ _ (by omega) i_sm eR (by omega) (by omega) hZ.put (fun v hv => ?_) (fun k h1 h2 => ?_)
            · by_cases e : v = D
              · rw [e, u3_s]; exact ⟨rfl, c5⟩
              · have h1 : cN (V + 1) N c v j = cN (V + 1) N c v (j + 1) := by
                  rw [sN v, if_neg (fun z => e z.symm)]
                  omega
                rw [u3_j e, h1]
                exact hA v hv
            · by_cases e : k = j
              · rw [e, ← hDD]; exact Or.inr c4
              · exact hD k (by omega) h2
          by_cases c7 : hp j ≤ vp D
          · have c8 : nI (hp j) ≤ nI (vp D) := nI_le c7 (by omega)
            simp only [e_lI0, e_lR0, e_st0, e_lI1, e_lR1, e_st1, e_lI2, e_lR2, e_st2, e_lI3, e_lR3, e_st3, e_lI4, e_lR4, e_st4, e_lI5, e_lR5, e_st5, e_lI6, e_lR6, e_st6, e_lI7, e_lR7, e_st7, e_lI8, e_lR8, e_st8, e_swn, e_swc, e_sw0, e_sw1, e_sw2, e_sw3, e_sw4, e_sw5, e_sw6, e_sw7, e_sw8, e_sw9, Option.toList_some, Option.toList_none, List.cons_append, List.nil_append, List.length_cons, List.length_nil, Nat.reduceAdd, Nat.reduceLeDiff, Nat.zero_le, Nat.le_refl, true_and, and_true, WP_eq, Nat.reduceSub, if_true, if_false, Nat.reduceEqDiff, not_false_eq_true, i_10, i_01, Int32.reduceLT, Int32.reduceLE, true_or, or_true, ne_eq, fk_2 hk, fk_8 hk, fk_11 hk, fk_20 hk, fk_29 hk, fr_12_29_41 hr, fk_58 hk, fl_58 hl, fr_12_29_34 hr, fk_52 hk, fl_52 hl, fr_12_29_36 hr, fk_54 hk, fl_54 hl, fr_12_29_35 hr, fk_53 hk, fl_53 hl, fr_12_29_13 hr, fk_39 hk, fl_39 hl, fr_12_29_40 hr, fk_57 hk, fl_57 hl, en_106, k106_0, k106_1, k106_10, k106_102, k106_104, k106_105, k106_106, k106_109, k106_111, k106_112, k106_115, k106_116, k106_119, k106_121, k106_122, k106_125, k106_127, k106_128, k106_129, k106_13, k106_132, k106_133, k106_136, k106_138, k106_139, k106_140, k106_143, k106_144, k106_147, k106_148, k106_15, k106_151, k106_153, k106_154, k106_155, k106_156, k106_159, k106_16, k106_161, k106_162, k106_163, k106_166, k106_167, k106_17, k106_170, k106_172, k106_173, k106_174, k106_177, k106_178, k106_181, k106_183, k106_184, k106_185, k106_186, k106_187, k106_189, k106_197, k106_198, k106_20, k106_201, k106_204, k106_206, k106_207, k106_210, k106_213, k106_215, k106_216, k106_219, k106_222, k106_223, k106_224, k106_226, k106_229, k106_230, k106_232, k106_235, k106_236, k106_237, k106_24, k106_240, k106_26, k106_27, k106_29, k106_30, k106_32, k106_33, k106_34, k106_35, k106_39, k106_42, k106_44, k106_45, k106_48, k106_49, k106_5, k106_50, k106_51, k106_53, k106_55, k106_56, k106_59, k106_6, k106_60, k106_61, k106_62, k106_64, k106_66, k106_67, k106_70, k106_73, k106_76, k106_77, k106_80, k106_82, k106_83, k106_84, k106_85, k106_86, k106_87, k106_88, k106_9, k106_91, k106_93, k106_94, k106_95, k106_98, k106_99, s_aload_n, s_dup2, s_goto, s_iadd, s_iaload20, s_iastore, s_icmp_ge, s_icmp_gt, s_icmp_le, s_icmp_lt, s_icmp_ne, s_iconst, s_idiv, s_if_lt, s_iinc, s_iload, s_iload_n, s_irem, s_istore, s_isub, s_return, sg_12_13, sg_12_33, sg_12_34, sg_12_35, sg_12_36, sg_12_40, sg_12_41, sg_12_43, sg_12_44, sp_12_42, sp_12_43, sp_12_44, c1, gV, e1, e0, er, ed, c3, v5, v4, vD, v6, vj, vh3, vhn, a1, eL, Nat.add_left_cancel_iff, u3_d, eq_self, false_and, and_false, and_self, if_true, if_false, Nat.reduceEqDiff, b52, b53, b54, b57, b39, c4, c6, c8]
            rw [k106_192, s_goto]
            refine hfin _ ?_
            rw [pk_sub c7]
            unfold dst
            congr 1
            omega
          · have c8 : ¬ nI (hp j) ≤ nI (vp D) := nI_ge (by omega) (by omega)
            simp only [e_lI0, e_lR0, e_st0, e_lI1, e_lR1, e_st1, e_lI2, e_lR2, e_st2, e_lI3, e_lR3, e_st3, e_lI4, e_lR4, e_st4, e_lI5, e_lR5, e_st5, e_lI6, e_lR6, e_st6, e_lI7, e_lR7, e_st7, e_lI8, e_lR8, e_st8, e_swn, e_swc, e_sw0, e_sw1, e_sw2, e_sw3, e_sw4, e_sw5, e_sw6, e_sw7, e_sw8, e_sw9, Option.toList_some, Option.toList_none, List.cons_append, List.nil_append, List.length_cons, List.length_nil, Nat.reduceAdd, Nat.reduceLeDiff, Nat.zero_le, Nat.le_refl, true_and, and_true, WP_eq, Nat.reduceSub, if_true, if_false, Nat.reduceEqDiff, not_false_eq_true, i_10, i_01, Int32.reduceLT, Int32.reduceLE, true_or, or_true, ne_eq, fk_2 hk, fk_8 hk, fk_11 hk, fk_20 hk, fk_29 hk, fr_12_29_41 hr, fk_58 hk, fl_58 hl, fr_12_29_34 hr, fk_52 hk, fl_52 hl, fr_12_29_36 hr, fk_54 hk, fl_54 hl, fr_12_29_35 hr, fk_53 hk, fl_53 hl, fr_12_29_13 hr, fk_39 hk, fl_39 hl, fr_12_29_40 hr, fk_57 hk, fl_57 hl, en_106, k106_0, k106_1, k106_10, k106_102, k106_104, k106_105, k106_106, k106_109, k106_111, k106_112, k106_115, k106_116, k106_119, k106_121, k106_122, k106_125, k106_127, k106_128, k106_129, k106_13, k106_132, k106_133, k106_136, k106_138, k106_139, k106_140, k106_143, k106_144, k106_147, k106_148, k106_15, k106_151, k106_153, k106_154, k106_155, k106_156, k106_159, k106_16, k106_161, k106_162, k106_163, k106_166, k106_167, k106_17, k106_170, k106_172, k106_173, k106_174, k106_177, k106_178, k106_181, k106_183, k106_184, k106_185, k106_186, k106_187, k106_189, k106_197, k106_198, k106_20, k106_201, k106_204, k106_206, k106_207, k106_210, k106_213, k106_215, k106_216, k106_219, k106_222, k106_223, k106_224, k106_226, k106_229, k106_230, k106_232, k106_235, k106_236, k106_237, k106_24, k106_240, k106_26, k106_27, k106_29, k106_30, k106_32, k106_33, k106_34, k106_35, k106_39, k106_42, k106_44, k106_45, k106_48, k106_49, k106_5, k106_50, k106_51, k106_53, k106_55, k106_56, k106_59, k106_6, k106_60, k106_61, k106_62, k106_64, k106_66, k106_67, k106_70, k106_73, k106_76, k106_77, k106_80, k106_82, k106_83, k106_84, k106_85, k106_86, k106_87, k106_88, k106_9, k106_91, k106_93, k106_94, k106_95, k106_98, k106_99, s_aload_n, s_dup2, s_goto, s_iadd, s_iaload20, s_iastore, s_icmp_ge, s_icmp_gt, s_icmp_le, s_icmp_lt, s_icmp_ne, s_iconst, s_idiv, s_if_lt, s_iinc, s_iload, s_iload_n, s_irem, s_istore, s_isub, s_return, sg_12_13, sg_12_33, sg_12_34, sg_12_35, sg_12_36, sg_12_40, sg_12_41, sg_12_43, sg_12_44, sp_12_42, sp_12_43, sp_12_44, c1, gV, e1, e0, er, ed, c3, v5, v4, vD, v6, vj, vh3, vhn, a1, eL, Nat.add_left_cancel_iff, u3_d, eq_self, false_and, and_false, and_self, if_true, if_false, Nat.reduceEqDiff, b52, b53, b54, b57, b39, c4, c6, c8]
            rw [k106_192, s_goto]
            refine hfin _ ?_
            rw [pk_sub (show vp D ≤ hp j by omega)]
            unfold dst
            congr 1
            omega
        · have c6 : ¬ nI (cN (V + 1) N c D N - cN (V + 1) N c D j) ≤ nI (many D) := nI_ge (by omega) (by have := hcN D; omega)
          simp only [e_lI0, e_lR0, e_st0, e_lI1, e_lR1, e_st1, e_lI2, e_lR2, e_st2, e_lI3, e_lR3, e_st3, e_lI4, e_lR4, e_st4, e_lI5, e_lR5, e_st5, e_lI6, e_lR6, e_st6, e_lI7, e_lR7, e_st7, e_lI8, e_lR8, e_st8, e_swn, e_swc, e_sw0, e_sw1, e_sw2, e_sw3, e_sw4, e_sw5, e_sw6, e_sw7, e_sw8, e_sw9, Option.toList_some, Option.toList_none, List.cons_append, List.nil_append, List.length_cons, List.length_nil, Nat.reduceAdd, Nat.reduceLeDiff, Nat.zero_le, Nat.le_refl, true_and, and_true, WP_eq, Nat.reduceSub, if_true, if_false, Nat.reduceEqDiff, not_false_eq_true, i_10, i_01, Int32.reduceLT, Int32.reduceLE, true_or, or_true, ne_eq, fk_2 hk, fk_8 hk, fk_11 hk, fk_20 hk, fk_29 hk, fr_12_29_41 hr, fk_58 hk, fl_58 hl, fr_12_29_34 hr, fk_52 hk, fl_52 hl, fr_12_29_36 hr, fk_54 hk, fl_54 hl, fr_12_29_35 hr, fk_53 hk, fl_53 hl, fr_12_29_13 hr, fk_39 hk, fl_39 hl, fr_12_29_40 hr, fk_57 hk, fl_57 hl, en_106, k106_0, k106_1, k106_10, k106_102, k106_104, k106_105, k106_106, k106_109, k106_111, k106_112, k106_115, k106_116, k106_119, k106_121, k106_122, k106_125, k106_127, k106_128, k106_129, k106_13, k106_132, k106_133, k106_136, k106_138, k106_139, k106_140, k106_143, k106_144, k106_147, k106_148, k106_15, k106_151, k106_153, k106_154, k106_155, k106_156, k106_159, k106_16, k106_161, k106_162, k106_163, k106_166, k106_167, k106_17, k106_170, k106_172, k106_173, k106_174, k106_177, k106_178, k106_181, k106_183, k106_184, k106_185, k106_186, k106_187, k106_189, k106_197, k106_198, k106_20, k106_201, k106_204, k106_206, k106_207, k106_210, k106_213, k106_215, k106_216, k106_219, k106_222, k106_223, k106_224, k106_226, k106_229, k106_230, k106_232, k106_235, k106_236, k106_237, k106_24, k106_240, k106_26, k106_27, k106_29, k106_30, k106_32, k106_33, k106_34, k106_35, k106_39, k106_42, k106_44, k106_45, k106_48, k106_49, k106_5, k106_50, k106_51, k106_53, k106_55, k106_56, k106_59, k106_6, k106_60, k106_61, k106_62, k106_64, k106_66, k106_67, k106_70, k106_73, k106_76, k106_77, k106_80, k106_82, k106_83, k106_84, k106_85, k106_86, k106_87, k106_88, k106_9, k106_91, k106_93, k106_94, k106_95, k106_98, k106_99, s_aload_n, s_dup2, s_goto, s_iadd, s_iaload20, s_iastore, s_icmp_ge, s_icmp_gt, s_icmp_le, s_icmp_lt, s_icmp_ne, s_iconst, s_idiv, s_if_lt, s_iinc, s_iload, s_iload_n, s_irem, s_istore, s_isub, s_return, sg_12_13, sg_12_33, sg_12_34, sg_12_35, sg_12_36, sg_12_40, sg_12_41, sg_12_43, sg_12_44, sp_12_42, sp_12_43, sp_12_44, c1, gV, e1, e0, er, ed, c3, v5, v4, vD, a1, eL, Nat.add_left_cancel_iff, u3_d, eq_self, false_and, and_false, and_self, if_true, if_false, Nat.reduceEqDiff, b52, b54, c4, c6]
          refine hQ1 (fun z => ?_) _ hZ.put
          have := z.2 D hDV
          omega
      · simp only [e_lI0, e_lR0, e_st0, e_lI1, e_lR1, e_st1, e_lI2, e_lR2, e_st2, e_lI3, e_lR3, e_st3, e_lI4, e_lR4, e_st4, e_lI5, e_lR5, e_st5, e_lI6, e_lR6, e_st6, e_lI7, e_lR7, e_st7, e_lI8, e_lR8, e_st8, e_swn, e_swc, e_sw0, e_sw1, e_sw2, e_sw3, e_sw4, e_sw5, e_sw6, e_sw7, e_sw8, e_sw9, Option.toList_some, Option.toList_none, List.cons_append, List.nil_append, List.length_cons, List.length_nil, Nat.reduceAdd, Nat.reduceLeDiff, Nat.zero_le, Nat.le_refl, true_and, and_true, WP_eq, Nat.reduceSub, if_true, if_false, Nat.reduceEqDiff, not_false_eq_true, i_10, i_01, Int32.reduceLT, Int32.reduceLE, true_or, or_true, ne_eq, fk_2 hk, fk_8 hk, fk_11 hk, fk_20 hk, fk_29 hk, fr_12_29_41 hr, fk_58 hk, fl_58 hl, fr_12_29_34 hr, fk_52 hk, fl_52 hl, fr_12_29_36 hr, fk_54 hk, fl_54 hl, fr_12_29_35 hr, fk_53 hk, fl_53 hl, fr_12_29_13 hr, fk_39 hk, fl_39 hl, fr_12_29_40 hr, fk_57 hk, fl_57 hl, en_106, k106_0, k106_1, k106_10, k106_102, k106_104, k106_105, k106_106, k106_109, k106_111, k106_112, k106_115, k106_116, k106_119, k106_121, k106_122, k106_125, k106_127, k106_128, k106_129, k106_13, k106_132, k106_133, k106_136, k106_138, k106_139, k106_140, k106_143, k106_144, k106_147, k106_148, k106_15, k106_151, k106_153, k106_154, k106_155, k106_156, k106_159, k106_16, k106_161, k106_162, k106_163, k106_166, k106_167, k106_17, k106_170, k106_172, k106_173, k106_174, k106_177, k106_178, k106_181, k106_183, k106_184, k106_185, k106_186, k106_187, k106_189, k106_197, k106_198, k106_20, k106_201, k106_204, k106_206, k106_207, k106_210, k106_213, k106_215, k106_216, k106_219, k106_222, k106_223, k106_224, k106_226, k106_229, k106_230, k106_232, k106_235, k106_236, k106_237, k106_24, k106_240, k106_26, k106_27, k106_29, k106_30, k106_32, k106_33, k106_34, k106_35, k106_39, k106_42, k106_44, k106_45, k106_48, k106_49, k106_5, k106_50, k106_51, k106_53, k106_55, k106_56, k106_59, k106_6, k106_60, k106_61, k106_62, k106_64, k106_66, k106_67, k106_70, k106_73, k106_76, k106_77, k106_80, k106_82, k106_83, k106_84, k106_85, k106_86, k106_87, k106_88, k106_9, k106_91, k106_93, k106_94, k106_95, k106_98, k106_99, s_aload_n, s_dup2, s_goto, s_iadd, s_iaload20, s_iastore, s_icmp_ge, s_icmp_gt, s_icmp_le, s_icmp_lt, s_icmp_ne, s_iconst, s_idiv, s_if_lt, s_iinc, s_iload, s_iload_n, s_irem, s_istore, s_isub, s_return, sg_12_13, sg_12_33, sg_12_34, sg_12_35, sg_12_36, sg_12_40, sg_12_41, sg_12_43, sg_12_44, sp_12_42, sp_12_43, sp_12_44, c1, gV, e1, e0, er, ed, c3, v5, v4, vD, a1, eL, Nat.add_left_cancel_iff, u3_d, eq_self, false_and, and_false, and_self, if_true, if_false, Nat.reduceEqDiff, b52, c4]
        refine hQ1 (fun z => ?_) _ hZ.put
        rcases z.1 j hjN with q | q
        · rw [← hDD] at q; exact c2 q
        · rw [← hDD] at q; exact c4 q
def WF (iv0 iv : Nat → Nat → Nat → Int32) : Prop := (∀ K, K ≠ 12 → K ≠ 20 → iv K = iv0 K) ∧ (∀ a, a ≠ 58 → iv 20 a = iv0 20 a) ∧ (∀ j, j < 42 → iv 12 29 j = iv0 12 29 j)
set_option maxRecDepth 100000 in
set_option maxHeartbeats 4000000 in
theorem L_wayM {d V N c : Nat} {w : Int32} {many hp vp hn : Nat → Nat} {n : Nat} {kd ln : Nat → Nat} {iv0 : Nat → Nat → Nat → Int32} {rv : Nat → Nat → Nat → Nat} {Q : Rt} (hk : FixK kd) (hl : FixL ln) (hr : FixR rv) (hW : WM V many hp vp hn N iv0) (hc31 : c < 2 ^ 31) (hM : MI V (iv0 20 52) w many (fun k v => dst (hp k) (vp v)) N (iv0 12 29 43) (iv0 12 29 44) (iv0 12 29 42) c)
    (hQ : ∀ iv', WF iv0 iv' → MI V (iv0 20 52) w many (fun k v => dst (hp k) (vp v)) N (iv' 12 29 43) (iv' 12 29 44) (iv' 12 29 42) (c + 1) → Q none ((n, kd, ln), iv', rv)) : MW (d + 1) 106 [.inr 29, .inl (nI c), .inl (nI N), .inl w] ((n, kd, ln), iv0, rv) Q := by
  obtain ⟨⟨wV, wV4, wN6⟩, wv, wk⟩ := id hW
  have hwf : ∀ iv', ZL iv0 iv' → WF iv0 iv' := fun iv' h => ⟨fun K k1 k2 => h.1 K k2, h.2, fun j _ => by rw [h.1 12 (by decide)]⟩
  simp only [e_lI0, e_lR0, e_st0, e_lI1, e_lR1, e_st1, e_lI2, e_lR2, e_st2, e_lI3, e_lR3, e_st3, e_lI4, e_lR4, e_st4, e_lI5, e_lR5, e_st5, e_lI6, e_lR6, e_st6, e_lI7, e_lR7, e_st7, e_lI8, e_lR8, e_st8, e_swn, e_swc, e_sw0, e_sw1, e_sw2, e_sw3, e_sw4, e_sw5, e_sw6, e_sw7, e_sw8, e_sw9, Option.toList_some, Option.toList_none, List.cons_append, List.nil_append, List.length_cons, List.length_nil, Nat.reduceAdd, Nat.reduceLeDiff, Nat.zero_le, Nat.le_refl, true_and, and_true, WP_eq, Nat.reduceSub, if_true, if_false, Nat.reduceEqDiff, not_false_eq_true, i_10, i_01, Int32.reduceLT, Int32.reduceLE, true_or, or_true, ne_eq, fk_2 hk, fk_8 hk, fk_11 hk, fk_20 hk, fk_29 hk, fr_12_29_41 hr, fk_58 hk, fl_58 hl, fr_12_29_34 hr, fk_52 hk, fl_52 hl, fr_12_29_36 hr, fk_54 hk, fl_54 hl, fr_12_29_35 hr, fk_53 hk, fl_53 hl, fr_12_29_13 hr, fk_39 hk, fl_39 hl, fr_12_29_40 hr, fk_57 hk, fl_57 hl, en_106, k106_0, k106_1, k106_10, k106_102, k106_104, k106_105, k106_106, k106_109, k106_111, k106_112, k106_115, k106_116, k106_119, k106_121, k106_122, k106_125, k106_127, k106_128, k106_129, k106_13, k106_132, k106_133, k106_136, k106_138, k106_139, k106_140, k106_143, k106_144, k106_147, k106_148, k106_15, k106_151, k106_153, k106_154, k106_155, k106_156, k106_159, k106_16, k106_161, k106_162, k106_163, k106_166, k106_167, k106_17, k106_170, k106_172, k106_173, k106_174, k106_177, k106_178, k106_181, k106_183, k106_184, k106_185, k106_186, k106_187, k106_189, k106_197, k106_198, k106_20, k106_201, k106_204, k106_206, k106_207, k106_210, k106_213, k106_215, k106_216, k106_219, k106_222, k106_223, k106_224, k106_226, k106_229, k106_230, k106_232, k106_235, k106_236, k106_237, k106_24, k106_240, k106_26, k106_27, k106_29, k106_30, k106_32, k106_33, k106_34, k106_35, k106_39, k106_42, k106_44, k106_45, k106_48, k106_49, k106_5, k106_50, k106_51, k106_53, k106_55, k106_56, k106_59, k106_6, k106_60, k106_61, k106_62, k106_64, k106_66, k106_67, k106_70, k106_73, k106_76, k106_77, k106_80, k106_82, k106_83, k106_84, k106_85, k106_86, k106_87, k106_88, k106_9, k106_91, k106_93, k106_94, k106_95, k106_98, k106_99, s_aload_n, s_dup2, s_goto, s_iadd, s_iaload20, s_iastore, s_icmp_ge, s_icmp_gt, s_icmp_le, s_icmp_lt, s_icmp_ne, s_iconst, s_idiv, s_if_lt, s_iinc, s_iload, s_iload_n, s_irem, s_istore, s_isub, s_return, sg_12_13, sg_12_33, sg_12_34, sg_12_35, sg_12_36, sg_12_40, sg_12_41, sg_12_43, sg_12_44, sp_12_42, sp_12_43, sp_12_44]
  rw [← WP_eq]
  refine lp_load hk hl hr (fun iv1 hZ1 hA1 => ?_) 5 0 iv0 (by omega) ⟨fun _ _ => rfl, fun _ _ => rfl⟩ (fun v hv => by omega)
  rw [WP_eq, k106_23]
  simp only [e_lI0, e_lR0, e_st0, e_lI1, e_lR1, e_st1, e_lI2, e_lR2, e_st2, e_lI3, e_lR3, e_st3, e_lI4, e_lR4, e_st4, e_lI5, e_lR5, e_st5, e_lI6, e_lR6, e_st6, e_lI7, e_lR7, e_st7, e_lI8, e_lR8, e_st8, e_swn, e_swc, e_sw0, e_sw1, e_sw2, e_sw3, e_sw4, e_sw5, e_sw6, e_sw7, e_sw8, e_sw9, Option.toList_some, Option.toList_none, List.cons_append, List.nil_append, List.length_cons, List.length_nil, Nat.reduceAdd, Nat.reduceLeDiff, Nat.zero_le, Nat.le_refl, true_and, and_true, WP_eq, Nat.reduceSub, if_true, if_false, Nat.reduceEqDiff, not_false_eq_true, i_10, i_01, Int32.reduceLT, Int32.reduceLE, true_or, or_true, ne_eq, fk_2 hk, fk_8 hk, fk_11 hk, fk_20 hk, fk_29 hk, fr_12_29_41 hr, fk_58 hk, fl_58 hl, fr_12_29_34 hr, fk_52 hk, fl_52 hl, fr_12_29_36 hr, fk_54 hk, fl_54 hl, fr_12_29_35 hr, fk_53 hk, fl_53 hl, fr_12_29_13 hr, fk_39 hk, fl_39 hl, fr_12_29_40 hr, fk_57 hk, fl_57 hl, en_106, k106_0, k106_1, k106_10, k106_102, k106_104, k106_105, k106_106, k106_109, k106_111, k106_112, k106_115, k106_116, k106_119, k106_121, k106_122, k106_125, k106_127, k106_128, k106_129, k106_13, k106_132, k106_133, k106_136, k106_138, k106_139, k106_140, k106_143, k106_144, k106_147, k106_148, k106_15, k106_151, k106_153, k106_154, k106_155, k106_156, k106_159, k106_16, k106_161, k106_162, k106_163, k106_166, k106_167, k106_17, k106_170, k106_172, k106_173, k106_174, k106_177, k106_178, k106_181, k106_183, k106_184, k106_185, k106_186, k106_187, k106_189, k106_197, k106_198, k106_20, k106_201, k106_204, k106_206, k106_207, k106_210, k106_213, k106_215, k106_216, k106_219, k106_222, k106_223, k106_224, k106_226, k106_229, k106_23, k106_230, k106_232, k106_235, k106_236, k106_237, k106_24, k106_240, k106_26, k106_27, k106_29, k106_30, k106_32, k106_33, k106_34, k106_35, k106_39, k106_42, k106_44, k106_45, k106_48, k106_49, k106_5, k106_50, k106_51, k106_53, k106_55, k106_56, k106_59, k106_6, k106_60, k106_61, k106_62, k106_64, k106_66, k106_67, k106_70, k106_73, k106_76, k106_77, k106_80, k106_82, k106_83, k106_84, k106_85, k106_86, k106_87, k106_88, k106_9, k106_91, k106_93, k106_94, k106_95, k106_98, k106_99, s_aload_n, s_dup2, s_goto, s_iadd, s_iaload20, s_iastore, s_icmp_ge, s_icmp_gt, s_icmp_le, s_icmp_lt, s_icmp_ne, s_iconst, s_idiv, s_if_lt, s_iinc, s_iload, s_iload_n, s_irem, s_istore, s_isub, s_return, sg_12_13, sg_12_33, sg_12_34, sg_12_35, sg_12_36, sg_12_40, sg_12_41, sg_12_43, sg_12_44, sp_12_42, sp_12_43, sp_12_44]
  rw [← WP_eq]
  refine lp_wayM hk hl hr hW hc31 (fun hn iv' hZ => ?_) (fun hn iv' l4 l7 l8 hZ => ?_) N _ c 0 0 iv1 _ (Nat.le_refl _) rfl ?_ (by omega) (by omega) hZ1 (fun v hv => ?_) (fun k h1 h2 => by omega)
  · refine hQ iv' (hwf iv' hZ) ?_
    rw [hZ.1 12 (by decide)]
    exact hM.bad hn
  · have g := hM.good hn wN6 (fun k v h1 h2 => dst_bd (wk k h1).2.2.2 (wv v h2).2.1)
    have g43 : iv' 12 29 43 = iv0 12 29 43 := by rw [hZ.1 12 (by decide)]
    have g44 : iv' 12 29 44 = iv0 12 29 44 := by rw [hZ.1 12 (by decide)]
    have g42 : iv' 12 29 42 = iv0 12 29 42 := by rw [hZ.1 12 (by decide)]
    have keep : MI V (iv0 20 52) w many (fun k v => dst (hp k) (vp v)) N (iv0 12 29 43) (iv0 12 29 44) (iv0 12 29 42) (c + 1) → Q none ((n, kd, ln), iv', rv) := fun z => hQ iv' (hwf iv' hZ) (by rw [g43, g44, g42]; exact z)
    have put : MI V (iv0 20 52) w many (fun k v => dst (hp k) (vp v)) N (nI (mn V N c)) (nI (fA V (fun k v => dst (hp k) (vp v)) N c N)) (nI c) (c + 1) → Q none ((n, kd, ln), u3 (u3 (u3 iv' 12 29 43 (nI (mn V N c))) 12 29 44 (nI (fA V (fun k v => dst (hp k) (vp v)) N c N))) 12 29 42 (nI c), rv) := fun z => by
      refine hQ _ ⟨fun K k1 k2 => ?_, fun a a1 => ?_, fun j j1 => ?_⟩ ?_
      · rw [u3_c k1, u3_c k1, u3_c k1]; exact hZ.1 K k2
      · rw [u3_c (by decide), u3_c (by decide), u3_c (by decide)]; exact hZ.2 a a1
      · rw [u3_j (by omega), u3_j (by omega), u3_j (by omega), hZ.1 12 (by decide)]
      · rw [u3_s, u3_j (by decide), u3_j (by decide), u3_s, u3_j (by decide), u3_s]
        exact z
    rw [WP_eq, k106_195]
    by_cases c1 : nI (mn V N c) < iv0 12 29 43
    · simp only [e_lI0, e_lR0, e_st0, e_lI1, e_lR1, e_st1, e_lI2, e_lR2, e_st2, e_lI3, e_lR3, e_st3, e_lI4, e_lR4, e_st4, e_lI5, e_lR5, e_st5, e_lI6, e_lR6, e_st6, e_lI7, e_lR7, e_st7, e_lI8, e_lR8, e_st8, e_swn, e_swc, e_sw0, e_sw1, e_sw2, e_sw3, e_sw4, e_sw5, e_sw6, e_sw7, e_sw8, e_sw9, Option.toList_some, Option.toList_none, List.cons_append, List.nil_append, List.length_cons, List.length_nil, Nat.reduceAdd, Nat.reduceLeDiff, Nat.zero_le, Nat.le_refl, true_and, and_true, WP_eq, Nat.reduceSub, if_true, if_false, Nat.reduceEqDiff, not_false_eq_true, i_10, i_01, Int32.reduceLT, Int32.reduceLE, true_or, or_true, ne_eq, fk_2 hk, fk_8 hk, fk_11 hk, fk_20 hk, fk_29 hk, fr_12_29_41 hr, fk_58 hk, fl_58 hl, fr_12_29_34 hr, fk_52 hk, fl_52 hl, fr_12_29_36 hr, fk_54 hk, fl_54 hl, fr_12_29_35 hr, fk_53 hk, fl_53 hl, fr_12_29_13 hr, fk_39 hk, fl_39 hl, fr_12_29_40 hr, fk_57 hk, fl_57 hl, en_106, k106_0, k106_1, k106_10, k106_102, k106_104, k106_105, k106_106, k106_109, k106_111, k106_112, k106_115, k106_116, k106_119, k106_121, k106_122, k106_125, k106_127, k106_128, k106_129, k106_13, k106_132, k106_133, k106_136, k106_138, k106_139, k106_140, k106_143, k106_144, k106_147, k106_148, k106_15, k106_151, k106_153, k106_154, k106_155, k106_156, k106_159, k106_16, k106_161, k106_162, k106_163, k106_166, k106_167, k106_17, k106_170, k106_172, k106_173, k106_174, k106_177, k106_178, k106_181, k106_183, k106_184, k106_185, k106_186, k106_187, k106_189, k106_197, k106_198, k106_20, k106_201, k106_204, k106_206, k106_207, k106_210, k106_213, k106_215, k106_216, k106_219, k106_222, k106_223, k106_224, k106_226, k106_229, k106_230, k106_232, k106_235, k106_236, k106_237, k106_24, k106_240, k106_26, k106_27, k106_29, k106_30, k106_32, k106_33, k106_34, k106_35, k106_39, k106_42, k106_44, k106_45, k106_48, k106_49, k106_5, k106_50, k106_51, k106_53, k106_55, k106_56, k106_59, k106_6, k106_60, k106_61, k106_62, k106_64, k106_66, k106_67, k106_70, k106_73, k106_76, k106_77, k106_80, k106_82, k106_83, k106_84, k106_85, k106_86, k106_87, k106_88, k106_9, k106_91, k106_93, k106_94, k106_95, k106_98, k106_99, s_aload_n, s_dup2, s_goto, s_iadd, s_iaload20, s_iastore, s_icmp_ge, s_icmp_gt, s_icmp_le, s_icmp_lt, s_icmp_ne, s_iconst, s_idiv, s_if_lt, s_iinc, s_iload, s_iload_n, s_irem, s_istore, s_isub, s_return, sg_12_13, sg_12_33, sg_12_34, sg_12_35, sg_12_36, sg_12_40, sg_12_41, sg_12_43, sg_12_44, sp_12_42, sp_12_43, sp_12_44, g43, c1]
      exact keep (g.1 c1)
    · by_cases c2 : nI (mn V N c) = iv0 12 29 43
      · by_cases c3 : nI (fA V (fun k v => dst (hp k) (vp v)) N c N) < iv0 12 29 44
        · simp only [e_lI0, e_lR0, e_st0, e_lI1, e_lR1, e_st1, e_lI2, e_lR2, e_st2, e_lI3, e_lR3, e_st3, e_lI4, e_lR4, e_st4, e_lI5, e_lR5, e_st5, e_lI6, e_lR6, e_st6, e_lI7, e_lR7, e_st7, e_lI8, e_lR8, e_st8, e_swn, e_swc, e_sw0, e_sw1, e_sw2, e_sw3, e_sw4, e_sw5, e_sw6, e_sw7, e_sw8, e_sw9, Option.toList_some, Option.toList_none, List.cons_append, List.nil_append, List.length_cons, List.length_nil, Nat.reduceAdd, Nat.reduceLeDiff, Nat.zero_le, Nat.le_refl, true_and, and_true, WP_eq, Nat.reduceSub, if_true, if_false, Nat.reduceEqDiff, not_false_eq_true, i_10, i_01, Int32.reduceLT, Int32.reduceLE, true_or, or_true, ne_eq, fk_2 hk, fk_8 hk, fk_11 hk, fk_20 hk, fk_29 hk, fr_12_29_41 hr, fk_58 hk, fl_58 hl, fr_12_29_34 hr, fk_52 hk, fl_52 hl, fr_12_29_36 hr, fk_54 hk, fl_54 hl, fr_12_29_35 hr, fk_53 hk, fl_53 hl, fr_12_29_13 hr, fk_39 hk, fl_39 hl, fr_12_29_40 hr, fk_57 hk, fl_57 hl, en_106, k106_0, k106_1, k106_10, k106_102, k106_104, k106_105, k106_106, k106_109, k106_111, k106_112, k106_115, k106_116, k106_119, k106_121, k106_122, k106_125, k106_127, k106_128, k106_129, k106_13, k106_132, k106_133, k106_136, k106_138, k106_139, k106_140, k106_143, k106_144, k106_147, k106_148, k106_15, k106_151, k106_153, k106_154, k106_155, k106_156, k106_159, k106_16, k106_161, k106_162, k106_163, k106_166, k106_167, k106_17, k106_170, k106_172, k106_173, k106_174, k106_177, k106_178, k106_181, k106_183, k106_184, k106_185, k106_186, k106_187, k106_189, k106_197, k106_198, k106_20, k106_201, k106_204, k106_206, k106_207, k106_210, k106_213, k106_215, k106_216, k106_219, k106_222, k106_223, k106_224, k106_226, k106_229, k106_230, k106_232, k106_235, k106_236, k106_237, k106_24, k106_240, k106_26, k106_27, k106_29, k106_30, k106_32, k106_33, k106_34, k106_35, k106_39, k106_42, k106_44, k106_45, k106_48, k106_49, k106_5, k106_50, k106_51, k106_53, k106_55, k106_56, k106_59, k106_6, k106_60, k106_61, k106_62, k106_64, k106_66, k106_67, k106_70, k106_73, k106_76, k106_77, k106_80, k106_82, k106_83, k106_84, k106_85, k106_86, k106_87, k106_88, k106_9, k106_91, k106_93, k106_94, k106_95, k106_98, k106_99, s_aload_n, s_dup2, s_goto, s_iadd, s_iaload20, s_iastore, s_icmp_ge, s_icmp_gt, s_icmp_le, s_icmp_lt, s_icmp_ne, s_iconst, s_idiv, s_if_lt, s_iinc, s_iload, s_iload_n, s_irem, s_istore, s_isub, s_return, sg_12_13, sg_12_33, sg_12_34, sg_12_35, sg_12_36, sg_12_40, sg_12_41, sg_12_43, sg_12_44, sp_12_42, sp_12_43, sp_12_44, g43, g44, c1, eq_true c2, c3]
          exact put (g.2.2 c1 (Or.inr c3))
        · simp only [e_lI0, e_lR0, e_st0, e_lI1, e_lR1, e_st1, e_lI2, e_lR2, e_st2, e_lI3, e_lR3, e_st3, e_lI4, e_lR4, e_st4, e_lI5, e_lR5, e_st5, e_lI6, e_lR6, e_st6, e_lI7, e_lR7, e_st7, e_lI8, e_lR8, e_st8, e_swn, e_swc, e_sw0, e_sw1, e_sw2, e_sw3, e_sw4, e_sw5, e_sw6, e_sw7, e_sw8, e_sw9, Option.toList_some, Option.toList_none, List.cons_append, List.nil_append, List.length_cons, List.length_nil, Nat.reduceAdd, Nat.reduceLeDiff, Nat.zero_le, Nat.le_refl, true_and, and_true, WP_eq, Nat.reduceSub, if_true, if_false, Nat.reduceEqDiff, not_false_eq_true, i_10, i_01, Int32.reduceLT, Int32.reduceLE, true_or, or_true, ne_eq, fk_2 hk, fk_8 hk, fk_11 hk, fk_20 hk, fk_29 hk, fr_12_29_41 hr, fk_58 hk, fl_58 hl, fr_12_29_34 hr, fk_52 hk, fl_52 hl, fr_12_29_36 hr, fk_54 hk, fl_54 hl, fr_12_29_35 hr, fk_53 hk, fl_53 hl, fr_12_29_13 hr, fk_39 hk, fl_39 hl, fr_12_29_40 hr, fk_57 hk, fl_57 hl, en_106, k106_0, k106_1, k106_10, k106_102, k106_104, k106_105, k106_106, k106_109, k106_111, k106_112, k106_115, k106_116, k106_119, k106_121, k106_122, k106_125, k106_127, k106_128, k106_129, k106_13, k106_132, k106_133, k106_136, k106_138, k106_139, k106_140, k106_143, k106_144, k106_147, k106_148, k106_15, k106_151, k106_153, k106_154, k106_155, k106_156, k106_159, k106_16, k106_161, k106_162, k106_163, k106_166, k106_167, k106_17, k106_170, k106_172, k106_173, k106_174, k106_177, k106_178, k106_181, k106_183, k106_184, k106_185, k106_186, k106_187, k106_189, k106_197, k106_198, k106_20, k106_201, k106_204, k106_206, k106_207, k106_210, k106_213, k106_215, k106_216, k106_219, k106_222, k106_223, k106_224, k106_226, k106_229, k106_230, k106_232, k106_235, k106_236, k106_237, k106_24, k106_240, k106_26, k106_27, k106_29, k106_30, k106_32, k106_33, k106_34, k106_35, k106_39, k106_42, k106_44, k106_45, k106_48, k106_49, k106_5, k106_50, k106_51, k106_53, k106_55, k106_56, k106_59, k106_6, k106_60, k106_61, k106_62, k106_64, k106_66, k106_67, k106_70, k106_73, k106_76, k106_77, k106_80, k106_82, k106_83, k106_84, k106_85, k106_86, k106_87, k106_88, k106_9, k106_91, k106_93, k106_94, k106_95, k106_98, k106_99, s_aload_n, s_dup2, s_goto, s_iadd, s_iaload20, s_iastore, s_icmp_ge, s_icmp_gt, s_icmp_le, s_icmp_lt, s_icmp_ne, s_iconst, s_idiv, s_if_lt, s_iinc, s_iload, s_iload_n, s_irem, s_istore, s_isub, s_return, sg_12_13, sg_12_33, sg_12_34, sg_12_35, sg_12_36, sg_12_40, sg_12_41, sg_12_43, sg_12_44, sp_12_42, sp_12_43, sp_12_44, g43, g44, c1, eq_true c2, c3]
          exact keep (g.2.1 c2 c3)
      · simp only [e_lI0, e_lR0, e_st0, e_lI1, e_lR1, e_st1, e_lI2, e_lR2, e_st2, e_lI3, e_lR3, e_st3, e_lI4, e_lR4, e_st4, e_lI5, e_lR5, e_st5, e_lI6, e_lR6, e_st6, e_lI7, e_lR7, e_st7, e_lI8, e_lR8, e_st8, e_swn, e_swc, e_sw0, e_sw1, e_sw2, e_sw3, e_sw4, e_sw5, e_sw6, e_sw7, e_sw8, e_sw9, Option.toList_some, Option.toList_none, List.cons_append, List.nil_append, List.length_cons, List.length_nil, Nat.reduceAdd, Nat.reduceLeDiff, Nat.zero_le, Nat.le_refl, true_and, and_true, WP_eq, Nat.reduceSub, if_true, if_false, Nat.reduceEqDiff, not_false_eq_true, i_10, i_01, Int32.reduceLT, Int32.reduceLE, true_or, or_true, ne_eq, fk_2 hk, fk_8 hk, fk_11 hk, fk_20 hk, fk_29 hk, fr_12_29_41 hr, fk_58 hk, fl_58 hl, fr_12_29_34 hr, fk_52 hk, fl_52 hl, fr_12_29_36 hr, fk_54 hk, fl_54 hl, fr_12_29_35 hr, fk_53 hk, fl_53 hl, fr_12_29_13 hr, fk_39 hk, fl_39 hl, fr_12_29_40 hr, fk_57 hk, fl_57 hl, en_106, k106_0, k106_1, k106_10, k106_102, k106_104, k106_105, k106_106, k106_109, k106_111, k106_112, k106_115, k106_116, k106_119, k106_121, k106_122, k106_125, k106_127, k106_128, k106_129, k106_13, k106_132, k106_133, k106_136, k106_138, k106_139, k106_140, k106_143, k106_144, k106_147, k106_148, k106_15, k106_151, k106_153, k106_154, k106_155, k106_156, k106_159, k106_16, k106_161, k106_162, k106_163, k106_166, k106_167, k106_17, k106_170, k106_172, k106_173, k106_174, k106_177, k106_178, k106_181, k106_183, k106_184, k106_185, k106_186, k106_187, k106_189, k106_197, k106_198, k106_20, k106_201, k106_204, k106_206, k106_207, k106_210, k106_213, k106_215, k106_216, k106_219, k106_222, k106_223, k106_224, k106_226, k106_229, k106_230, k106_232, k106_235, k106_236, k106_237, k106_24, k106_240, k106_26, k106_27, k106_29, k106_30, k106_32, k106_33, k106_34, k106_35, k106_39, k106_42, k106_44, k106_45, k106_48, k106_49, k106_5, k106_50, k106_51, k106_53, k106_55, k106_56, k106_59, k106_6, k106_60, k106_61, k106_62, k106_64, k106_66, k106_67, k106_70, k106_73, k106_76, k106_77, k106_80, k106_82, k106_83, k106_84, k106_85, k106_86, k106_87, k106_88, k106_9, k106_91, k106_93, k106_94, k106_95, k106_98, k106_99, s_aload_n, s_dup2, s_goto, s_iadd, s_iaload20, s_iastore, s_icmp_ge, s_icmp_gt, s_icmp_le, s_icmp_lt, s_icmp_ne, s_iconst, s_idiv, s_if_lt, s_iinc, s_iload, s_iload_n, s_irem, s_istore, s_isub, s_return, sg_12_13, sg_12_33, sg_12_34, sg_12_35, sg_12_36, sg_12_40, sg_12_41, sg_12_43, sg_12_44, sp_12_42, sp_12_43, sp_12_44, g43, c1, c2]
        exact put (g.2.2 c1 (Or.inl c2))
  · rw [Nat.sub_self, Nat.pow_zero, Nat.div_one]
  · rw [hA1 v (by omega), Nat.sub_self]
    exact ⟨rfl, Nat.zero_le _⟩
