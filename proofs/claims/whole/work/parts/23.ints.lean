theorem i_toI (x : Int32) : -2147483648 ≤ x.toInt ∧ x.toInt ≤ 2147483647 := ⟨by have := x.le_toInt; simpa using this, by have := x.toInt_lt; omega⟩
theorem i_addI {a b : Int32} (h1 : -2147483648 ≤ a.toInt + b.toInt) (h2 : a.toInt + b.toInt ≤ 2147483647) : (a + b).toInt = a.toInt + b.toInt := by
  rw [Int32.toInt_add, Int.bmod_eq_of_le (by omega) (by omega)]
theorem i_subI {a b : Int32} (h1 : -2147483648 ≤ a.toInt - b.toInt) (h2 : a.toInt - b.toInt ≤ 2147483647) : (a - b).toInt = a.toInt - b.toInt := by
  rw [Int32.toInt_sub, Int.bmod_eq_of_le (by omega) (by omega)]
theorem lts {a x : Int32} (h : a.toInt < 2147483647) : (a < x) = (a + 1 ≤ x) := by
  apply propext
  have h1 := i_toI a
  have e : (a + 1).toInt = a.toInt + 1 := i_addI (by show _ ≤ _ + 1; omega) (by show _ + 1 ≤ _; omega)
  rw [Int32.lt_iff_toInt_lt, Int32.le_iff_toInt_le, e]
  omega
theorem sub1_lt {k : Nat} {x : Int32} (hk : k < 2 ^ 31) : (nI k - 1 < x) = (nI k ≤ x) := by
  apply propext
  have e0 := nI_toInt hk
  have e : (nI k - 1).toInt = (k : Int) - 1 := by
    rw [i_subI (by show _ ≤ _ - 1; omega) (by show _ - 1 ≤ _; omega), e0]
    rfl
  rw [Int32.lt_iff_toInt_lt, Int32.le_iff_toInt_le, e, e0]
  omega
theorem ix_of {x : Int32} {n : Nat} (hn : n < 2 ^ 31) (h0 : ¬ x < 0) (h1 : ¬ nI n ≤ x) : ∃ j : Nat, j < n ∧ x = nI j := by
  rcases pk_ix x hn with h | h | h
  · exact absurd h h0
  · exact absurd h h1
  · exact h
theorem nI_lit0 : nI 0 = 0 := rfl
theorem fix_kit {rv : Nat → Nat → Nat → Nat} (hr : FixR rv) {w : Nat} (hw : w < 6) : rv 35 7 w = 23 + w := by
  match w, hw with
  | 0, _ => exact fr_35_7_0 hr
  | 1, _ => exact fr_35_7_1 hr
  | 2, _ => exact fr_35_7_2 hr
  | 3, _ => exact fr_35_7_3 hr
  | 4, _ => exact fr_35_7_4 hr
  | 5, _ => exact fr_35_7_5 hr
theorem fix_kitk {kd : Nat → Nat} (hk : FixK kd) {w : Nat} (hw : w < 6) : kd (23 + w) = 5 := by
  match w, hw with
  | 0, _ => exact fk_23 hk
  | 1, _ => exact fk_24 hk
  | 2, _ => exact fk_25 hk
  | 3, _ => exact fk_26 hk
  | 4, _ => exact fk_27 hk
  | 5, _ => exact fk_28 hk
theorem lt5 {x : Int32} : (5 < x) = (6 ≤ x) := lts (by decide)
theorem lt99 {x : Int32} : (99 < x) = (100 ≤ x) := lts (by decide)
theorem u3_f {α : Type} {f : Nat → Nat → Nat → α} {c a j : Nat} {x : α} : u3 f c a j x c a = va_up (f c a) j x := by
  funext j'
  unfold u3 va_up
  by_cases h : j' = j
  · rw [if_pos ⟨rfl, rfl, h⟩, if_pos h]
  · rw [if_neg (fun z => h z.2.2), if_neg h]
theorem up_s {α : Type} {f : Nat → α} {k : Nat} {v : α} : va_up f k v k = v := if_pos rfl
theorem up_n {α : Type} {f : Nat → α} {k j : Nat} {v : α} (h : j ≠ k) : va_up f k v j = f j := if_neg h
theorem igt {a b : Int32} : (a < b) = (¬ b ≤ a) := propext Int32.not_le.symm
theorem le5 {x : Int32} : (x ≤ 5) = (¬ 6 ≤ x) := by rw [← lt5, igt, Classical.not_not]
theorem le99 {x : Int32} : (x ≤ 99) = (¬ 100 ≤ x) := by rw [← lt99, igt, Classical.not_not]
theorem sub1_le {k : Nat} {x : Int32} (hk : k < 2 ^ 31) : (x ≤ nI k - 1) = (¬ nI k ≤ x) := by rw [← sub1_lt hk, igt, Classical.not_not]
theorem ix_ge {x : Int32} {n : Nat} (hn : n < 2 ^ 31) (h0 : 0 ≤ x) (h1 : ¬ nI n ≤ x) : ∃ j : Nat, j < n ∧ x = nI j := ix_of hn (Int32.not_lt.mpr h0) h1
theorem CKit.upd {f f' : Nat → Fn} {gr bo le ea gr' bo' le' ea' : Fn} (h : CKit f gr bo le ea) {w : Nat} (hf : ∀ k, k < 6 → k ≠ w → (∀ j, f' (23 + k) j = f (23 + k) j) ∧ gr' k = gr k ∧ bo' k = bo k ∧ le' k = le k ∧ ea' k = ea k) (hw : f' (23 + w) 0 = gr' w ∧ f' (23 + w) 1 = bo' w ∧ f' (23 + w) 2 = le' w ∧ f' (23 + w) 3 = ea' w) : CKit f' gr' bo' le' ea' := by
  intro k hk
  by_cases e : k = w
  · subst e; exact hw
  · obtain ⟨e1, e2, e3, e4, e5⟩ := hf k hk e
    rw [e1, e1, e1, e1, e2, e3, e4, e5]
    exact h k hk
theorem u3_d {α : Type} {f : Nat → Nat → Nat → α} {c a j K b i : Nat} {x : α} : u3 f c a j x K b i = if K = c ∧ b = a ∧ i = j then x else f K b i := rfl
theorem FixK.nz {kd : Nat → Nat} (hk : FixK kd) {a c : Nat} (h : kd a = c) (hc : c ≠ 0) : ¬ a = 0 := by
  intro e
  rw [e, fk_0 hk] at h
  exact hc h.symm
theorem i_20 : ((2 : Int32) = 0) = False := by decide
theorem i_21 : ((2 : Int32) = 1) = False := by decide
theorem i_30 : ((3 : Int32) = 0) = False := by decide
theorem i_31 : ((3 : Int32) = 1) = False := by decide
theorem i_12 : ((1 : Int32) = 2) = False := by decide
theorem i_02 : ((0 : Int32) = 2) = False := by decide
