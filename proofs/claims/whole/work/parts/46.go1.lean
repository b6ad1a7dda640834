/-! the week's end, purely: cards (state, to), houses (got); kitchens (bowls, left) -/
abbrev PS : Type := Fn × Fn × Fn
def bst (due go : Fn) : Nat → Option Nat
  | 0 => none
  | k + 1 => if due k ≤ 0 then bst due go k else (match bst due go k with
    | none => some k
    | some b => if go b ≤ go k then some b else some k)
theorem bst_lt {due go : Fn} : ∀ k b, bst due go k = some b → b < k
  | 0, b, h => by cases h
  | k + 1, b, h => by
    unfold bst at h
    by_cases c1 : due k ≤ 0
    · rw [if_pos c1] at h
      have := bst_lt k b h
      omega
    · rw [if_neg c1] at h
      cases hp : bst due go k with
      | none => rw [hp] at h; cases h; omega
      | some q =>
        rw [hp] at h
        dsimp only at h
        by_cases c2 : go q ≤ go k
        · rw [if_pos c2] at h; cases h
          have := bst_lt k b hp
          omega
        · rw [if_neg c2] at h; cases h; omega
def pool (due : Fn) (H : Nat) : Nat → Nat → PS → PS
  | 0, _, s => s
  | k + 1, c, s => if s.1 c = 0 then (match bst due s.2.2 H with
    | none => s
    | some h => pool due H k (c + 1) (va_up s.1 c 1, va_up s.2.1 c (nI h), va_up s.2.2 h (s.2.2 h + 1))) else pool due H k (c + 1) s
def kit (q : Fn × Fn) : Nat → Fn × Fn
  | 0 => q
  | k + 1 => (va_up (kit q k).1 k 0, va_up (kit q k).2 k ((kit q k).2 k + (kit q k).1 k))
def dueW (iv : Nat → Nat → Nat → Int32) (P : Nat) (t : Int32) : Fn := fun i => dueF (iv 20 41) (iv 20 42) (iv 20 40) (ruW (iv 20 47) (pick (iv 20 46) t P)) t i
def wkP (iv : Nat → Nat → Nat → Int32) (C H P T : Nat) (s : PS) : PS := if rmd (nI T) 4 = 3 then pool (dueW iv P (nI T)) H C 0 s else s
def wks (f : Nat → PS → PS) : Nat → Nat → PS → Fn × Fn → Int32 → Nat × PS × (Fn × Fn) × Int32
  | 0, T, p, q, r => (T, p, q, r)
  | k + 1, T, p, q, r => if T < 1040 then wks f k (T + 1) (f T p) (kit q 6) 0 else (T, p, q, r)
/-! the class's objects beside these rows -/
def CW (C Hn : Nat) (rv : Nat → Nat → Nat → Nat) (iv0 iv : Nat → Nat → Nat → Int32) (s : PS) (q : Fn × Fn) (t fr : Int32) : Prop :=
  ((∀ K, K ≠ 2 → K ≠ 4 → K ≠ 5 → K ≠ 11 → K ≠ 21 → iv K = iv0 K) ∧ (∀ a, a ≠ 22 → iv 21 a = iv0 21 a)) ∧
  ((∀ a j, j ≠ 1 → j ≠ 2 → iv 2 a j = iv0 2 a j) ∧ (∀ i, i < C → iv 2 (rv 32 5 i) 1 = s.1 i ∧ iv 2 (rv 32 5 i) 2 = s.2.1 i)) ∧
  ((∀ a j, j ≠ 6 → iv 4 a j = iv0 4 a j) ∧ (∀ i, i < Hn → iv 4 (rv 34 4 i) 6 = s.2.2 i)) ∧
  ((∀ a j, j ≠ 1 → j ≠ 2 → iv 5 a j = iv0 5 a j) ∧ (∀ w, w < 6 → iv 5 (23 + w) 1 = q.1 w ∧ iv 5 (23 + w) 2 = q.2 w)) ∧
  (∀ j, j ≠ 13 → j ≠ 14 → iv 11 2 j = iv0 11 2 j) ∧ iv 11 2 13 = t ∧ iv 11 2 14 = fr
def DU (due : Fn) (iv : Nat → Nat → Nat → Int32) (k : Nat) : Prop := ∀ j, j < k → iv 21 22 j = if due j ≤ 0 then 0 else 1
def leA (go : Fn) (o : Option Nat) : Int32 := match o with
  | none => 0
  | some b => go b
set_option maxRecDepth 100000 in
set_option maxHeartbeats 4000000 in
theorem lp_next {d Hn : Nat} {due go : Fn} {n : Nat} {kd ln : Nat → Nat} {iv : Nat → Nat → Nat → Int32} {rv : Nat → Nat → Nat → Nat} {Q : Rt} {bc bs : Nat} (hk : FixK kd) (hl : FixL ln) (hr : FixR rv) (hH : iv 11 2 10 = nI Hn) (hH3 : Hn ≤ 30) (hkd : ∀ i, i < Hn → kd (rv 34 4 i) = 4) (hgo : ∀ i, i < Hn → iv 4 (rv 34 4 i) 6 = go i) (hdu : DU due iv Hn) :
    ∀ k i, i + k = Hn → WPc (MW d) 76 Q 6 [some (.inr 2), some (.inl (ruB (bst due go i))), some (.inl (leA go (bst due go i))), some (.inl (nI i))] [] ((n, kd, ln), iv, rv) bc bs = Q (some (.inl (ruB (bst due go Hn)))) ((n, kd, ln), iv, rv) := by
  intro k
  induction k with
  | zero =>
    intro i hi
    obtain rfl : i = Hn := by omega
    rw [WP_eq, k76_6]
    simp only [e_lI0, e_lR0, e_st0, e_lI1, e_lR1, e_st1, e_lI2, e_lR2, e_st2, e_lI3, e_lR3, e_st3, e_lI4, e_lR4, e_st4, e_lI5, e_lR5, e_st5, e_lI6, e_lR6, e_st6, e_lI7, e_lR7, e_st7, e_lI8, e_lR8, e_st8, e_swn, e_swc, e_sw0, e_sw1, e_sw2, e_sw3, e_sw4, e_sw5, e_sw6, e_sw7, e_sw8, e_sw9, Option.toList_some, Option.toList_none, List.cons_append, List.nil_append, List.length_cons, List.length_nil, Nat.reduceAdd, Nat.reduceLeDiff, Nat.zero_le, Nat.le_refl, true_and, and_true, WP_eq, Nat.reduceSub, if_true, if_false, Nat.reduceEqDiff, not_false_eq_true, i_10, i_01, Int32.reduceLT, Int32.reduceLE, true_or, or_true, ne_eq, fk_2 hk, fk_8 hk, fk_11 hk, fk_20 hk, fk_29 hk, fr_11_2_8 hr, fk_22 hk, fl_22 hl, fr_11_2_1 hr, fk_4 hk, fl_4 hl, en_76, k76_0, k76_1, k76_11, k76_14, k76_15, k76_18, k76_19, k76_2, k76_20, k76_23, k76_24, k76_25, k76_28, k76_29, k76_3, k76_32, k76_33, k76_34, k76_37, k76_38, k76_4, k76_41, k76_42, k76_43, k76_44, k76_47, k76_48, k76_49, k76_5, k76_52, k76_53, k76_56, k76_59, k76_60, k76_7, k76_8, r_76, s_aaload, s_aload_n, s_baload, s_goto, s_icmp_eq, s_icmp_ge, s_iconst, s_if_eq, s_iinc, s_iload_n, s_istore_n, sg_11_1, sg_11_10, sg_11_8, sg_4_6, hH, nI_self_le]
  | succ k ih =>
    intro i hi
    have hiH : i < Hn := by omega
    have c1 : ¬ nI Hn ≤ nI i := nI_ge hiH (by omega)
    have hin : vp_in (nI i) 30 := vp_in_nI (by omega) (by decide)
    have hcl : (nI i).toNatClampNeg = i := nI_clamp (by omega)
    have hk4 := hkd i hiH
    have g := hgo i hiH
    have du := hdu i hiH
    have hstep : bst due go (i + 1) = if due i ≤ 0 then bst due go i else (match bst due go i with | none => some i | some b => if go b ≤ go i then some b else some i) := rfl
    rw [WP_eq, k76_6]
    by_cases c2 : due i ≤ 0
    · rw [if_pos c2] at hstep du
      simp only [e_lI0, e_lR0, e_st0, e_lI1, e_lR1, e_st1, e_lI2, e_lR2, e_st2, e_lI3, e_lR3, e_st3, e_lI4, e_lR4, e_st4, e_lI5, e_lR5, e_st5, e_lI6, e_lR6, e_st6, e_lI7, e_lR7, e_st7, e_lI8, e_lR8, e_st8, e_swn, e_swc, e_sw0, e_sw1, e_sw2, e_sw3, e_sw4, e_sw5, e_sw6, e_sw7, e_sw8, e_sw9, Option.toList_some, Option.toList_none, List.cons_append, List.nil_append, List.length_cons, List.length_nil, Nat.reduceAdd, Nat.reduceLeDiff, Nat.zero_le, Nat.le_refl, true_and, and_true, WP_eq, Nat.reduceSub, if_true, if_false, Nat.reduceEqDiff, not_false_eq_true, i_10, i_01, Int32.reduceLT, Int32.reduceLE, true_or, or_true, ne_eq, fk_2 hk, fk_8 hk, fk_11 hk, fk_20 hk, fk_29 hk, fr_11_2_8 hr, fk_22 hk, fl_22 hl, fr_11_2_1 hr, fk_4 hk, fl_4 hl, en_76, k76_0, k76_1, k76_11, k76_14, k76_15, k76_18, k76_19, k76_2, k76_20, k76_23, k76_24, k76_25, k76_28, k76_29, k76_3, k76_32, k76_33, k76_34, k76_37, k76_38, k76_4, k76_41, k76_42, k76_43, k76_44, k76_47, k76_48, k76_49, k76_5, k76_52, k76_53, k76_56, k76_59, k76_60, k76_7, k76_8, r_76, s_aaload, s_aload_n, s_baload, s_goto, s_icmp_eq, s_icmp_ge, s_iconst, s_if_eq, s_iinc, s_iload_n, s_istore_n, sg_11_1, sg_11_10, sg_11_8, sg_4_6, hH, c1, hin, hcl, du]
      rw [← WP_eq, nI_1, ← ih (i + 1) (by omega), hstep]
    · rw [if_neg c2] at hstep du
      cases hp : bst due go i with
      | none =>
        rw [hp] at hstep
        have e1 : ruB none = -1 := rfl
        simp only [e_lI0, e_lR0, e_st0, e_lI1, e_lR1, e_st1, e_lI2, e_lR2, e_st2, e_lI3, e_lR3, e_st3, e_lI4, e_lR4, e_st4, e_lI5, e_lR5, e_st5, e_lI6, e_lR6, e_st6, e_lI7, e_lR7, e_st7, e_lI8, e_lR8, e_st8, e_swn, e_swc, e_sw0, e_sw1, e_sw2, e_sw3, e_sw4, e_sw5, e_sw6, e_sw7, e_sw8, e_sw9, Option.toList_some, Option.toList_none, List.cons_append, List.nil_append, List.length_cons, List.length_nil, Nat.reduceAdd, Nat.reduceLeDiff, Nat.zero_le, Nat.le_refl, true_and, and_true, WP_eq, Nat.reduceSub, if_true, if_false, Nat.reduceEqDiff, not_false_eq_true, i_10, i_01, Int32.reduceLT, Int32.reduceLE, true_or, or_true, ne_eq, fk_2 hk, fk_8 hk, fk_11 hk, fk_20 hk, fk_29 hk, fr_11_2_8 hr, fk_22 hk, fl_22 hl, fr_11_2_1 hr, fk_4 hk, fl_4 hl, en_76, k76_0, k76_1, k76_11, k76_14, k76_15, k76_18, k76_19, k76_2, k76_20, k76_23, k76_24, k76_25, k76_28, k76_29, k76_3, k76_32, k76_33, k76_34, k76_37, k76_38, k76_4, k76_41, k76_42, k76_43, k76_44, k76_47, k76_48, k76_49, k76_5, k76_52, k76_53, k76_56, k76_59, k76_60, k76_7, k76_8, r_76, s_aaload, s_aload_n, s_baload, s_goto, s_icmp_eq, s_icmp_ge, s_iconst, s_if_eq, s_iinc, s_iload_n, s_istore_n, sg_11_1, sg_11_10, sg_11_8, sg_4_6, hH, c1, hin, hcl, du, e1, hk4, g]
        rw [← WP_eq, nI_1, ← ih (i + 1) (by omega), hstep]
        rfl
      | some b =>
        rw [hp] at hstep
        have hb := bst_lt i b hp
        have e1 : ruB (some b) = nI b := rfl
        have e2 : ¬ nI b = -1 := nI_m1 (by omega)
        have e3 : leA go (some b) = go b := rfl
        dsimp only at hstep
        by_cases c3 : go b ≤ go i
        · rw [if_pos c3] at hstep
          simp only [e_lI0, e_lR0, e_st0, e_lI1, e_lR1, e_st1, e_lI2, e_lR2, e_st2, e_lI3, e_lR3, e_st3, e_lI4, e_lR4, e_st4, e_lI5, e_lR5, e_st5, e_lI6, e_lR6, e_st6, e_lI7, e_lR7, e_st7, e_lI8, e_lR8, e_st8, e_swn, e_swc, e_sw0, e_sw1, e_sw2, e_sw3, e_sw4, e_sw5, e_sw6, e_sw7, e_sw8, e_sw9, Option.toList_some, Option.toList_none, List.cons_append, List.nil_append, List.length_cons, List.length_nil, Nat.reduceAdd, Nat.reduceLeDiff, Nat.zero_le, Nat.le_refl, true_and, and_true, WP_eq, Nat.reduceSub, if_true, if_false, Nat.reduceEqDiff, not_false_eq_true, i_10, i_01, Int32.reduceLT, Int32.reduceLE, true_or, or_true, ne_eq, fk_2 hk, fk_8 hk, fk_11 hk, fk_20 hk, fk_29 hk, fr_11_2_8 hr, fk_22 hk, fl_22 hl, fr_11_2_1 hr, fk_4 hk, fl_4 hl, en_76, k76_0, k76_1, k76_11, k76_14, k76_15, k76_18, k76_19, k76_2, k76_20, k76_23, k76_24, k76_25, k76_28, k76_29, k76_3, k76_32, k76_33, k76_34, k76_37, k76_38, k76_4, k76_41, k76_42, k76_43, k76_44, k76_47, k76_48, k76_49, k76_5, k76_52, k76_53, k76_56, k76_59, k76_60, k76_7, k76_8, r_76, s_aaload, s_aload_n, s_baload, s_goto, s_icmp_eq, s_icmp_ge, s_iconst, s_if_eq, s_iinc, s_iload_n, s_istore_n, sg_11_1, sg_11_10, sg_11_8, sg_4_6, hH, c1, hin, hcl, du, e1, e2, e3, hk4, g, c3]
          rw [← WP_eq, nI_1, ← ih (i + 1) (by omega), hstep]
          rfl
        · rw [if_neg c3] at hstep
          simp only [e_lI0, e_lR0, e_st0, e_lI1, e_lR1, e_st1, e_lI2, e_lR2, e_st2, e_lI3, e_lR3, e_st3, e_lI4, e_lR4, e_st4, e_lI5, e_lR5, e_st5, e_lI6, e_lR6, e_st6, e_lI7, e_lR7, e_st7, e_lI8, e_lR8, e_st8, e_swn, e_swc, e_sw0, e_sw1, e_sw2, e_sw3, e_sw4, e_sw5, e_sw6, e_sw7, e_sw8, e_sw9, Option.toList_some, Option.toList_none, List.cons_append, List.nil_append, List.length_cons, List.length_nil, Nat.reduceAdd, Nat.reduceLeDiff, Nat.zero_le, Nat.le_refl, true_and, and_true, WP_eq, Nat.reduceSub, if_true, if_false, Nat.reduceEqDiff, not_false_eq_true, i_10, i_01, Int32.reduceLT, Int32.reduceLE, true_or, or_true, ne_eq, fk_2 hk, fk_8 hk, fk_11 hk, fk_20 hk, fk_29 hk, fr_11_2_8 hr, fk_22 hk, fl_22 hl, fr_11_2_1 hr, fk_4 hk, fl_4 hl, en_76, k76_0, k76_1, k76_11, k76_14, k76_15, k76_18, k76_19, k76_2, k76_20, k76_23, k76_24, k76_25, k76_28, k76_29, k76_3, k76_32, k76_33, k76_34, k76_37, k76_38, k76_4, k76_41, k76_42, k76_43, k76_44, k76_47, k76_48, k76_49, k76_5, k76_52, k76_53, k76_56, k76_59, k76_60, k76_7, k76_8, r_76, s_aaload, s_aload_n, s_baload, s_goto, s_icmp_eq, s_icmp_ge, s_iconst, s_if_eq, s_iinc, s_iload_n, s_istore_n, sg_11_1, sg_11_10, sg_11_8, sg_4_6, hH, c1, hin, hcl, du, e1, e2, e3, hk4, g, c3]
          rw [← WP_eq, nI_1, ← ih (i + 1) (by omega), hstep]
          rfl
set_option maxRecDepth 100000 in
set_option maxHeartbeats 4000000 in
theorem L_next {d Hn : Nat} {due go : Fn} {n : Nat} {kd ln : Nat → Nat} {iv : Nat → Nat → Nat → Int32} {rv : Nat → Nat → Nat → Nat} {Q : Rt} (hk : FixK kd) (hl : FixL ln) (hr : FixR rv) (hH : iv 11 2 10 = nI Hn) (hH3 : Hn ≤ 30) (hkd : ∀ i, i < Hn → kd (rv 34 4 i) = 4) (hgo : ∀ i, i < Hn → iv 4 (rv 34 4 i) 6 = go i) (hdu : DU due iv Hn) : MW (d + 1) 76 [.inr 2] ((n, kd, ln), iv, rv) Q = Q (some (.inl (ruB (bst due go Hn)))) ((n, kd, ln), iv, rv) := by
  simp only [e_lI0, e_lR0, e_st0, e_lI1, e_lR1, e_st1, e_lI2, e_lR2, e_st2, e_lI3, e_lR3, e_st3, e_lI4, e_lR4, e_st4, e_lI5, e_lR5, e_st5, e_lI6, e_lR6, e_st6, e_lI7, e_lR7, e_st7, e_lI8, e_lR8, e_st8, e_swn, e_swc, e_sw0, e_sw1, e_sw2, e_sw3, e_sw4, e_sw5, e_sw6, e_sw7, e_sw8, e_sw9, Option.toList_some, Option.toList_none, List.cons_append, List.nil_append, List.length_cons, List.length_nil, Nat.reduceAdd, Nat.reduceLeDiff, Nat.zero_le, Nat.le_refl, true_and, and_true, WP_eq, Nat.reduceSub, if_true, if_false, Nat.reduceEqDiff, not_false_eq_true, i_10, i_01, Int32.reduceLT, Int32.reduceLE, true_or, or_true, ne_eq, fk_2 hk, fk_8 hk, fk_11 hk, fk_20 hk, fk_29 hk, fr_11_2_8 hr, fk_22 hk, fl_22 hl, fr_11_2_1 hr, fk_4 hk, fl_4 hl, en_76, k76_0, k76_1, k76_11, k76_14, k76_15, k76_18, k76_19, k76_2, k76_20, k76_23, k76_24, k76_25, k76_28, k76_29, k76_3, k76_32, k76_33, k76_34, k76_37, k76_38, k76_4, k76_41, k76_42, k76_43, k76_44, k76_47, k76_48, k76_49, k76_5, k76_52, k76_53, k76_56, k76_59, k76_60, k76_7, k76_8, r_76, s_aaload, s_aload_n, s_baload, s_goto, s_icmp_eq, s_icmp_ge, s_iconst, s_if_eq, s_iinc, s_iload_n, s_istore_n, sg_11_1, sg_11_10, sg_11_8, sg_4_6]
  rw [← WP_eq]
  exact lp_next hk hl hr hH hH3 hkd hgo hdu Hn 0 (by omega)
set_option maxRecDepth 100000 in
set_option maxHeartbeats 4000000 in
theorem lp_pool {d C Hn : Nat} {due : Fn} {ru : Nat} {t fr : Int32} {q : Fn × Fn} {n : Nat} {kd ln : Nat → Nat} {iv0 : Nat → Nat → Nat → Int32} {rv : Nat → Nat → Nat → Nat} {Q : Rt} {bc bs : Nat} (hk : FixK kd) (hl : FixL ln) (hr : FixR rv) (hH : iv0 11 2 10 = nI Hn) (hH3 : Hn ≤ 30) (hC : iv0 11 2 11 = nI C) (hC4 : C ≤ 400) (hkd : ∀ i, i < Hn → kd (rv 34 4 i) = 4) (hinj : ∀ i j, i < Hn → j < Hn → rv 34 4 i = rv 34 4 j → i = j) (hkc : ∀ i, i < C → kd (rv 32 5 i) = 2) (hinjc : ∀ i j, i < C → j < C → rv 32 5 i = rv 32 5 j → i = j) :
    ∀ k c s iv l3 l4, c + k = C → CW C Hn rv iv0 iv s q t fr → DU due iv Hn → (∀ iv', CW C Hn rv iv0 iv' (pool due Hn k c s) q t fr → Q none ((n, kd, ln), iv', rv)) → WPc (MW (d + 1)) 75 Q 55 [some (.inr 2), some (.inr ru), some (.inl (nI c)), l3, l4] [] ((n, kd, ln), iv, rv) bc bs := by
  intro k
  induction k with
  | zero =>
    intro c s iv l3 l4 hc hW hD hQ
    obtain rfl : c = C := by omega
    have hC' : iv 11 2 11 = nI c := by rw [hW.2.2.2.2.1 11 (by decide) (by decide)]; exact hC
    rw [WP_eq, k75_55]
    simp only [e_lI0, e_lR0, e_st0, e_lI1, e_lR1, e_st1, e_lI2, e_lR2, e_st2, e_lI3, e_lR3, e_st3, e_lI4, e_lR4, e_st4, e_lI5, e_lR5, e_st5, e_lI6, e_lR6, e_st6, e_lI7, e_lR7, e_st7, e_lI8, e_lR8, e_st8, e_swn, e_swc, e_sw0, e_sw1, e_sw2, e_sw3, e_sw4, e_sw5, e_sw6, e_sw7, e_sw8, e_sw9, Option.toList_some, Option.toList_none, List.cons_append, List.nil_append, List.length_cons, List.length_nil, Nat.reduceAdd, Nat.reduceLeDiff, Nat.zero_le, Nat.le_refl, true_and, and_true, WP_eq, Nat.reduceSub, if_true, if_false, Nat.reduceEqDiff, not_false_eq_true, i_10, i_01, Int32.reduceLT, Int32.reduceLE, true_or, or_true, ne_eq, fk_2 hk, fk_8 hk, fk_11 hk, fk_20 hk, fk_29 hk, fr_11_2_5 hr, fr_11_2_8 hr, fk_22 hk, fl_22 hl, fr_11_2_1 hr, fk_4 hk, fl_4 hl, fr_11_2_2 hr, fk_5 hk, fl_5 hl, en_75, c_30, c_65, c_71, c_72, c_76, k75_0, k75_1, k75_101, k75_102, k75_105, k75_108, k75_11, k75_111, k75_12, k75_13, k75_15, k75_16, k75_19, k75_22, k75_23, k75_26, k75_27, k75_28, k75_29, k75_32, k75_33, k75_34, k75_35, k75_38, k75_4, k75_41, k75_42, k75_45, k75_46, k75_47, k75_5, k75_50, k75_53, k75_54, k75_56, k75_57, k75_60, k75_63, k75_64, k75_67, k75_68, k75_69, k75_72, k75_75, k75_76, k75_79, k75_8, k75_80, k75_81, k75_82, k75_85, k75_87, k75_89, k75_92, k75_93, k75_94, k75_97, k75_98, k75_99, s_aaload, s_aload, s_aload_n, s_astore, s_astore_n, s_bastore, s_goto, s_icmp_ge, s_iconst, s_if_le, s_if_ne, s_ifnonnull, s_iinc, s_iload_n, s_istore_n, s_return, sg_11_1, sg_11_10, sg_11_11, sg_11_13, sg_11_2, sg_11_5, sg_11_8, sg_2_1, hC', nI_self_le]
    exact hQ iv hW
  | succ k ih =>
    intro c s iv l3 l4 hc hW hD hQ
    obtain ⟨⟨w1, w2⟩, ⟨w3, w4⟩, ⟨w5, w6⟩, ⟨w7, w8⟩, w9, w10, w11⟩ := id hW
    have hcC : c < C := by omega
    have hC' : iv 11 2 11 = nI C := by rw [w9 11 (by decide) (by decide)]; exact hC
    have hH' : iv 11 2 10 = nI Hn := by rw [w9 10 (by decide) (by decide)]; exact hH
    have c1 : ¬ nI C ≤ nI c := nI_ge hcC (by omega)
    have hin : vp_in (nI c) 400 := vp_in_nI (by omega) (by decide)
    have hcl : (nI c).toNatClampNeg = c := nI_clamp (by omega)
    have k2 := hkc c hcC
    obtain ⟨g1, g2⟩ := w4 c hcC
    rw [WP_eq, k75_55]
    by_cases c2 : s.1 c = 0
    · have hp : pool due Hn (k + 1) c s = (match bst due s.2.2 Hn with | none => s | some h => pool due Hn k (c + 1) (va_up s.1 c 1, va_up s.2.1 c (nI h), va_up s.2.2 h (s.2.2 h + 1))) := if_pos c2
      cases hb : bst due s.2.2 Hn with
      | none =>
        rw [hb] at hp
        have e1 : ruB none = -1 := rfl
        simp only [e_lI0, e_lR0, e_st0, e_lI1, e_lR1, e_st1, e_lI2, e_lR2, e_st2, e_lI3, e_lR3, e_st3, e_lI4, e_lR4, e_st4, e_lI5, e_lR5, e_st5, e_lI6, e_lR6, e_st6, e_lI7, e_lR7, e_st7, e_lI8, e_lR8, e_st8, e_swn, e_swc, e_sw0, e_sw1, e_sw2, e_sw3, e_sw4, e_sw5, e_sw6, e_sw7, e_sw8, e_sw9, Option.toList_some, Option.toList_none, List.cons_append, List.nil_append, List.length_cons, List.length_nil, Nat.reduceAdd, Nat.reduceLeDiff, Nat.zero_le, Nat.le_refl, true_and, and_true, WP_eq, Nat.reduceSub, if_true, if_false, Nat.reduceEqDiff, not_false_eq_true, i_10, i_01, Int32.reduceLT, Int32.reduceLE, true_or, or_true, ne_eq, fk_2 hk, fk_8 hk, fk_11 hk, fk_20 hk, fk_29 hk, fr_11_2_5 hr, fr_11_2_8 hr, fk_22 hk, fl_22 hl, fr_11_2_1 hr, fk_4 hk, fl_4 hl, fr_11_2_2 hr, fk_5 hk, fl_5 hl, en_75, c_30, c_65, c_71, c_72, c_76, k75_0, k75_1, k75_101, k75_102, k75_105, k75_108, k75_11, k75_111, k75_12, k75_13, k75_15, k75_16, k75_19, k75_22, k75_23, k75_26, k75_27, k75_28, k75_29, k75_32, k75_33, k75_34, k75_35, k75_38, k75_4, k75_41, k75_42, k75_45, k75_46, k75_47, k75_5, k75_50, k75_53, k75_54, k75_56, k75_57, k75_60, k75_63, k75_64, k75_67, k75_68, k75_69, k75_72, k75_75, k75_76, k75_79, k75_8, k75_80, k75_81, k75_82, k75_85, k75_87, k75_89, k75_92, k75_93, k75_94, k75_97, k75_98, k75_99, s_aaload, s_aload, s_aload_n, s_astore, s_astore_n, s_bastore, s_goto, s_icmp_ge, s_iconst, s_if_le, s_if_ne, s_ifnonnull, s_iinc, s_iload_n, s_istore_n, s_return, sg_11_1, sg_11_10, sg_11_11, sg_11_13, sg_11_2, sg_11_5, sg_11_8, sg_2_1, hC', c1, hin, hcl, k2, g1, eq_true c2, L_next (go := s.2.2) hk hl hr hH' hH3 hkd w6 hD, hb, e1, L_houseAt hk hl hr]
        exact hQ iv (by rw [hp]; exact hW)
      | some h =>
        rw [hb] at hp
        have hh := bst_lt Hn h hb
        have e1 : ruB (some h) = nI h := rfl
        have a1 : ¬ nI h < 0 := nI_pos (by omega)
        have a2 : ¬ nI Hn ≤ nI h := nI_ge hh (by omega)
        have a3 : vp_in (nI h) 30 := vp_in_nI (by omega) (by decide)
        have a4 : (nI h).toNatClampNeg = h := nI_clamp (by omega)
        have k4 := hkd h hh
        have z4 : ¬ rv 34 4 h = 0 := hk.nz k4 (by decide)
        have g6 := w6 h hh
        simp only [e_lI0, e_lR0, e_st0, e_lI1, e_lR1, e_st1, e_lI2, e_lR2, e_st2, e_lI3, e_lR3, e_st3, e_lI4, e_lR4, e_st4, e_lI5, e_lR5, e_st5, e_lI6, e_lR6, e_st6, e_lI7, e_lR7, e_st7, e_lI8, e_lR8, e_st8, e_swn, e_swc, e_sw0, e_sw1, e_sw2, e_sw3, e_sw4, e_sw5, e_sw6, e_sw7, e_sw8, e_sw9, Option.toList_some, Option.toList_none, List.cons_append, List.nil_append, List.length_cons, List.length_nil, Nat.reduceAdd, Nat.reduceLeDiff, Nat.zero_le, Nat.le_refl, true_and, and_true, WP_eq, Nat.reduceSub, if_true, if_false, Nat.reduceEqDiff, not_false_eq_true, i_10, i_01, Int32.reduceLT, Int32.reduceLE, true_or, or_true, ne_eq, fk_2 hk, fk_8 hk, fk_11 hk, fk_20 hk, fk_29 hk, fr_11_2_5 hr, fr_11_2_8 hr, fk_22 hk, fl_22 hl, fr_11_2_1 hr, fk_4 hk, fl_4 hl, fr_11_2_2 hr, fk_5 hk, fl_5 hl, en_75, c_30, c_65, c_71, c_72, c_76, k75_0, k75_1, k75_101, k75_102, k75_105, k75_108, k75_11, k75_111, k75_12, k75_13, k75_15, k75_16, k75_19, k75_22, k75_23, k75_26, k75_27, k75_28, k75_29, k75_32, k75_33, k75_34, k75_35, k75_38, k75_4, k75_41, k75_42, k75_45, k75_46, k75_47, k75_5, k75_50, k75_53, k75_54, k75_56, k75_57, k75_60, k75_63, k75_64, k75_67, k75_68, k75_69, k75_72, k75_75, k75_76, k75_79, k75_8, k75_80, k75_81, k75_82, k75_85, k75_87, k75_89, k75_92, k75_93, k75_94, k75_97, k75_98, k75_99, s_aaload, s_aload, s_aload_n, s_astore, s_astore_n, s_bastore, s_goto, s_icmp_ge, s_iconst, s_if_le, s_if_ne, s_ifnonnull, s_iinc, s_iload_n, s_istore_n, s_return, sg_11_1, sg_11_10, sg_11_11, sg_11_13, sg_11_2, sg_11_5, sg_11_8, sg_2_1, en_72, k72_0, k72_1, k72_10, k72_11, k72_12, k72_15, k72_16, k72_17, k72_2, k72_20, k72_5, k72_6, k72_7, s_dup, s_iadd, sg_4_6, sp_2_1, sp_2_2, sp_4_6, hC', hH', c1, hin, hcl, k2, k4, z4, g1, eq_true c2, L_next (go := s.2.2) hk hl hr hH' hH3 hkd w6 hD, hb, e1, L_houseAt hk hl hr, a1, a2, a3, a4, Nat.add_left_cancel_iff, u3_d, eq_self, false_and, and_false, and_self, if_true, if_false, Nat.reduceEqDiff, g6]
        rw [← WP_eq, nI_1 c]
        refine ih (c + 1) (va_up s.1 c 1, va_up s.2.1 c (nI h), va_up s.2.2 h (s.2.2 h + 1)) _ _ _ (by omega) ⟨⟨fun K q1 q2 q3 q4 q5 => ?_, fun a ha => ?_⟩, ⟨fun a j j1 j2 => ?_, fun i hi => ?_⟩, ⟨fun a j j1 => ?_, fun i hi => ?_⟩, ⟨fun a j j1 j2 => ?_, fun w hw => ?_⟩, fun j j1 j2 => ?_, ?_, ?_⟩ (fun j hj => ?_) (fun iv' hW' => hQ iv' (by rw [hp]; exact hW'))
        · rw [u3_c q2, u3_c q1, u3_c q1]; exact w1 K q1 q2 q3 q4 q5
        · rw [u3_c (by decide), u3_c (by decide), u3_c (by decide)]; exact w2 a ha
        · rw [u3_c (by decide), u3_j j2, u3_j j1]; exact w3 a j j1 j2
        · by_cases e : i = c
          · subst e
            simp only [Nat.add_left_cancel_iff, u3_d, eq_self, false_and, and_false, and_self, if_true, if_false, Nat.reduceEqDiff, up_s]
          · have e' : ¬ rv 32 5 i = rv 32 5 c := fun z => e (hinjc i c hi hcC z)
            simp only [Nat.add_left_cancel_iff, u3_d, eq_self, false_and, and_false, and_self, if_true, if_false, Nat.reduceEqDiff, e', up_n e]
            exact w4 i hi
        · rw [u3_j j1, u3_c (by decide), u3_c (by decide)]; exact w5 a j j1
        · by_cases e : i = h
          · subst e
            simp only [Nat.add_left_cancel_iff, u3_d, eq_self, false_and, and_false, and_self, if_true, if_false, Nat.reduceEqDiff, up_s]
          · have e' : ¬ rv 34 4 i = rv 34 4 h := fun z => e (hinj i h hi hh z)
            simp only [Nat.add_left_cancel_iff, u3_d, eq_self, false_and, and_false, and_self, if_true, if_false, Nat.reduceEqDiff, e', up_n e]
            exact w6 i hi
        · rw [u3_c (by decide), u3_c (by decide), u3_c (by decide)]; exact w7 a j j1 j2
        · rw [u3_c (by decide), u3_c (by decide), u3_c (by decide)]; exact w8 w hw
        · rw [u3_c (by decide), u3_c (by decide), u3_c (by decide)]; exact w9 j j1 j2
        · rw [u3_c (by decide), u3_c (by decide), u3_c (by decide)]; exact w10
        · rw [u3_c (by decide), u3_c (by decide), u3_c (by decide)]; exact w11
        · rw [u3_c (by decide), u3_c (by decide), u3_c (by decide)]; exact hD j hj
    · have hp : pool due Hn (k + 1) c s = pool due Hn k (c + 1) s := if_neg c2
      simp only [e_lI0, e_lR0, e_st0, e_lI1, e_lR1, e_st1, e_lI2, e_lR2, e_st2, e_lI3, e_lR3, e_st3, e_lI4, e_lR4, e_st4, e_lI5, e_lR5, e_st5, e_lI6, e_lR6, e_st6, e_lI7, e_lR7, e_st7, e_lI8, e_lR8, e_st8, e_swn, e_swc, e_sw0, e_sw1, e_sw2, e_sw3, e_sw4, e_sw5, e_sw6, e_sw7, e_sw8, e_sw9, Option.toList_some, Option.toList_none, List.cons_append, List.nil_append, List.length_cons, List.length_nil, Nat.reduceAdd, Nat.reduceLeDiff, Nat.zero_le, Nat.le_refl, true_and, and_true, WP_eq, Nat.reduceSub, if_true, if_false, Nat.reduceEqDiff, not_false_eq_true, i_10, i_01, Int32.reduceLT, Int32.reduceLE, true_or, or_true, ne_eq, fk_2 hk, fk_8 hk, fk_11 hk, fk_20 hk, fk_29 hk, fr_11_2_5 hr, fr_11_2_8 hr, fk_22 hk, fl_22 hl, fr_11_2_1 hr, fk_4 hk, fl_4 hl, fr_11_2_2 hr, fk_5 hk, fl_5 hl, en_75, c_30, c_65, c_71, c_72, c_76, k75_0, k75_1, k75_101, k75_102, k75_105, k75_108, k75_11, k75_111, k75_12, k75_13, k75_15, k75_16, k75_19, k75_22, k75_23, k75_26, k75_27, k75_28, k75_29, k75_32, k75_33, k75_34, k75_35, k75_38, k75_4, k75_41, k75_42, k75_45, k75_46, k75_47, k75_5, k75_50, k75_53, k75_54, k75_56, k75_57, k75_60, k75_63, k75_64, k75_67, k75_68, k75_69, k75_72, k75_75, k75_76, k75_79, k75_8, k75_80, k75_81, k75_82, k75_85, k75_87, k75_89, k75_92, k75_93, k75_94, k75_97, k75_98, k75_99, s_aaload, s_aload, s_aload_n, s_astore, s_astore_n, s_bastore, s_goto, s_icmp_ge, s_iconst, s_if_le, s_if_ne, s_ifnonnull, s_iinc, s_iload_n, s_istore_n, s_return, sg_11_1, sg_11_10, sg_11_11, sg_11_13, sg_11_2, sg_11_5, sg_11_8, sg_2_1, hC', c1, hin, hcl, k2, g1, eq_false c2]
      rw [← WP_eq, nI_1]
      exact ih (c + 1) s iv _ _ (by omega) hW hD (fun iv' hW' => hQ iv' (by rw [hp]; exact hW'))
