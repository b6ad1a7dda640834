/-! those that are chosen, in order -/
def sc (p : Nat → Bool) : Nat → Nat × (Nat → Nat)
  | 0 => (0, fun _ => 0)
  | i + 1 => if p i = true then ((sc p i).1 + 1, va_up (sc p i).2 (sc p i).1 i) else sc p i
theorem sc_t {p : Nat → Bool} {i : Nat} (h : p i = true) : sc p (i + 1) = ((sc p i).1 + 1, va_up (sc p i).2 (sc p i).1 i) := if_pos h
theorem sc_f {p : Nat → Bool} {i : Nat} (h : ¬ p i = true) : sc p (i + 1) = sc p i := if_neg h
theorem sc_le {p : Nat → Bool} {i : Nat} : ∀ j, i ≤ j → (sc p i).1 ≤ (sc p j).1
  | 0, h => by
    obtain rfl : i = 0 := by omega
    exact Nat.le_refl _
  | j + 1, h => by
    by_cases e : i = j + 1
    · rw [e]; exact Nat.le_refl _
    · have h1 := sc_le (p := p) (i := i) j (by omega)
      by_cases q : p j = true
      · rw [sc_t q]
        show _ ≤ (sc p j).1 + 1
        omega
      · rw [sc_f q]; exact h1
theorem sc_n {p : Nat → Bool} : ∀ j, (sc p j).1 ≤ j
  | 0 => Nat.le_refl _
  | j + 1 => by
    have h1 := sc_n (p := p) j
    by_cases q : p j = true
    · rw [sc_t q]
      show (sc p j).1 + 1 ≤ _
      omega
    · rw [sc_f q]; omega
theorem sc_in {p : Nat → Bool} : ∀ j k, k < (sc p j).1 → p ((sc p j).2 k) = true ∧ (sc p j).2 k < j
  | 0, k, h => absurd h (Nat.not_lt_zero _)
  | j + 1, k, h => by
    by_cases q : p j = true
    · rw [sc_t q] at h ⊢
      have h : k < (sc p j).1 + 1 := h
      show p (va_up (sc p j).2 (sc p j).1 j k) = true ∧ va_up (sc p j).2 (sc p j).1 j k < j + 1
      by_cases e : k = (sc p j).1
      · rw [e, up_s]; exact ⟨q, by omega⟩
      · rw [up_n e]
        have := sc_in (p := p) j k (by omega)
        exact ⟨this.1, by omega⟩
    · rw [sc_f q] at h ⊢
      have := sc_in (p := p) j k h
      exact ⟨this.1, by omega⟩
theorem sc_mono {p : Nat → Bool} : ∀ j a b, a < b → b < (sc p j).1 → (sc p j).2 a < (sc p j).2 b
  | 0, a, b, _, h => absurd h (Nat.not_lt_zero _)
  | j + 1, a, b, hab, h => by
    by_cases q : p j = true
    · rw [sc_t q] at h ⊢
      have h : b < (sc p j).1 + 1 := h
      show va_up (sc p j).2 (sc p j).1 j a < va_up (sc p j).2 (sc p j).1 j b
      rw [up_n (show a ≠ (sc p j).1 by omega)]
      by_cases e : b = (sc p j).1
      · rw [e, up_s]; exact (sc_in j a (by omega)).2
      · rw [up_n e]; exact sc_mono (p := p) j a b hab (by omega)
    · rw [sc_f q] at h ⊢
      exact sc_mono (p := p) j a b hab h
theorem sc_all {p : Nat → Bool} : ∀ j v, v < j → p v = true → ∃ i, i < (sc p j).1 ∧ v = (sc p j).2 i
  | 0, v, h, _ => by omega
  | j + 1, v, h, hp => by
    by_cases e : v = j
    · subst e
      rw [sc_t hp]
      exact ⟨(sc p v).1, Nat.lt_succ_self _, up_s.symm⟩
    · obtain ⟨i, h1, h2⟩ := sc_all (p := p) j v (by omega) hp
      by_cases q : p j = true
      · rw [sc_t q]
        refine ⟨i, Nat.lt_succ_of_lt h1, ?_⟩
        show v = va_up (sc p j).2 (sc p j).1 j i
        rw [up_n (by omega)]
        exact h2
      · rw [sc_f q]
        exact ⟨i, h1, h2⟩
theorem sc_none {p : Nat → Bool} : ∀ j, (∀ v, v < j → ¬ p v = true) → (sc p j).1 = 0
  | 0, _ => rfl
  | j + 1, h => by
    rw [sc_f (h j (by omega))]
    exact sc_none j (fun v hv => h v (by omega))
theorem sc_sum {p : Nat → Bool} {f : Nat → Nat} : ∀ j, sumR (fun i => f ((sc p j).2 i)) (sc p j).1 = sumR (fun v => if p v = true then f v else 0) j
  | 0 => rfl
  | j + 1 => by
    rw [sumR_s (n := j)]
    by_cases q : p j = true
    · rw [sc_t q, if_pos q, ← sc_sum j]
      show sumR (fun i => f (va_up (sc p j).2 (sc p j).1 j i)) ((sc p j).1 + 1) = _
      rw [sumR_s, up_s]
      congr 1
      exact sumR_same _ (fun k hk => by simp only [up_n (show k ≠ (sc p j).1 by omega)])
    · rw [sc_f q, if_neg q, Nat.add_zero, sc_sum j]
def cl (f : Fn) : Nat → Nat := fun i => (f i).toNatClampNeg
theorem cl_k {f : Fn} {i k : Nat} (h : f i = nI k) (hk : k < 2 ^ 31) : cl f i = k := by
  unfold cl
  rw [h, nI_clamp hk]
/-- houses of a ward that no look holds for -/
def wtg (wd lo : Fn) (what t w : Int32) : Nat → Bool := fun i => decide (wd i = w ∧ (lo i = -1 ∨ rmd what 1000 ≤ t - lo i))
def vsl (vw : Fn) (w : Int32) : Nat → Bool := fun i => decide (vw i = w)
theorem VN.of {V : Nat} {vw : Fn} {w : Int32} : VN V vw w (sc (vsl vw w) V).1 (sc (vsl vw w) V).2 := by
  refine ⟨fun i hi => ?_, fun i j hij hj => sc_mono V i j hij hj, fun v hv e => sc_all V v hv (decide_eq_true e)⟩
  have := sc_in V i hi
  exact ⟨this.2, of_decide_eq_true this.1⟩
theorem rms_of {V : Nat} {vw : Fn} {w : Int32} {r : Nat → Nat} : sumR (fun i => r ((sc (vsl vw w) V).2 i)) (sc (vsl vw w) V).1 = rms vw w r V := by
  rw [sc_sum]
  unfold rms
  refine sumR_same V (fun v hv => ?_)
  by_cases e : vw v = w
  · rw [if_pos e, if_pos (show vsl vw w v = true from decide_eq_true e)]
  · rw [if_neg e, if_neg (show ¬ vsl vw w v = true from fun z => e (of_decide_eq_true z))]
def CF (iv0 iv : Nat → Nat → Nat → Int32) : Prop := (∀ K, K ≠ 6 → K ≠ 20 → iv K = iv0 K) ∧ ∀ a, 20 ≤ a → iv 20 a = iv0 20 a
def MF (iv0 iv : Nat → Nat → Nat → Int32) : Prop := (∀ K, K ≠ 12 → K ≠ 20 → iv K = iv0 K) ∧ (∀ a, a ≠ 57 → a ≠ 58 → iv 20 a = iv0 20 a) ∧ (∀ j, j < 42 → iv 12 29 j = iv0 12 29 j)
theorem Inv.cf {iv' : Nat → Nat → Nat → Int32} {L : Nat} {xs : Fn} {n : Nat} {kd ln : Nat → Nat} {iv : Nat → Nat → Nat → Int32} {rv : Nat → Nat → Nat → Nat} {S C Hn V E P T : Nat} {lst : Nat → Nat} (hI : Inv L xs n kd ln iv rv S C Hn V E P T lst) (hJ : CF iv iv') : Inv L xs n kd ln iv' rv S C Hn V E P T lst := by
  unfold Inv Scal at hI ⊢
  simp only [hJ.1 19 (by decide) (by decide), hJ.1 11 (by decide) (by decide), hJ.1 12 (by decide) (by decide), hJ.1 8 (by decide) (by decide), hJ.1 1 (by decide) (by decide), hJ.1 9 (by decide) (by decide), hJ.1 21 (by decide) (by decide), hJ.1 2 (by decide) (by decide), hJ.1 4 (by decide) (by decide), hJ.1 7 (by decide) (by decide), hJ.1 5 (by decide) (by decide), hJ.1 10 (by decide) (by decide), hJ.1 3 (by decide) (by decide), hJ.2 30 (by decide), hJ.2 32 (by decide), hJ.2 33 (by decide), hJ.2 34 (by decide), hJ.2 35 (by decide), hJ.2 36 (by decide), hJ.2 37 (by decide), hJ.2 38 (by decide), hJ.2 39 (by decide), hJ.2 40 (by decide), hJ.2 41 (by decide), hJ.2 42 (by decide), hJ.2 43 (by decide), hJ.2 44 (by decide), hJ.2 45 (by decide), hJ.2 46 (by decide), hJ.2 47 (by decide), hJ.2 48 (by decide), hJ.2 49 (by decide), hJ.2 50 (by decide), hJ.2 51 (by decide), hJ.2 52 (by decide), hJ.2 53 (by decide), hJ.2 54 (by decide), hJ.2 55 (by decide), hJ.2 56 (by decide)]
  exact hI
theorem Inv.mf {iv' : Nat → Nat → Nat → Int32} {L : Nat} {xs : Fn} {n : Nat} {kd ln : Nat → Nat} {iv : Nat → Nat → Nat → Int32} {rv : Nat → Nat → Nat → Nat} {S C Hn V E P T : Nat} {lst : Nat → Nat} (hI : Inv L xs n kd ln iv rv S C Hn V E P T lst) (hJ : MF iv iv') : Inv L xs n kd ln iv' rv S C Hn V E P T lst := by
  unfold Inv Scal at hI ⊢
  simp only [hJ.1 19 (by decide) (by decide), hJ.1 11 (by decide) (by decide), hJ.1 8 (by decide) (by decide), hJ.1 1 (by decide) (by decide), hJ.1 9 (by decide) (by decide), hJ.1 21 (by decide) (by decide), hJ.1 2 (by decide) (by decide), hJ.1 4 (by decide) (by decide), hJ.1 7 (by decide) (by decide), hJ.1 5 (by decide) (by decide), hJ.1 10 (by decide) (by decide), hJ.1 3 (by decide) (by decide), hJ.2.1 30 (by decide) (by decide), hJ.2.1 32 (by decide) (by decide), hJ.2.1 33 (by decide) (by decide), hJ.2.1 34 (by decide) (by decide), hJ.2.1 35 (by decide) (by decide), hJ.2.1 36 (by decide) (by decide), hJ.2.1 37 (by decide) (by decide), hJ.2.1 38 (by decide) (by decide), hJ.2.1 39 (by decide) (by decide), hJ.2.1 40 (by decide) (by decide), hJ.2.1 41 (by decide) (by decide), hJ.2.1 42 (by decide) (by decide), hJ.2.1 43 (by decide) (by decide), hJ.2.1 44 (by decide) (by decide), hJ.2.1 45 (by decide) (by decide), hJ.2.1 46 (by decide) (by decide), hJ.2.1 47 (by decide) (by decide), hJ.2.1 48 (by decide) (by decide), hJ.2.1 49 (by decide) (by decide), hJ.2.1 50 (by decide) (by decide), hJ.2.1 51 (by decide) (by decide), hJ.2.1 52 (by decide) (by decide), hJ.2.1 53 (by decide) (by decide), hJ.2.1 54 (by decide) (by decide), hJ.2.1 55 (by decide) (by decide), hJ.2.1 56 (by decide) (by decide), hJ.2.2 1 (by decide), hJ.2.2 11 (by decide), hJ.2.2 4 (by decide), hJ.2.2 33 (by decide), hJ.2.2 0 (by decide), hJ.2.2 32 (by decide), hJ.2.2 20 (by decide), hJ.2.2 26 (by decide), hJ.2.2 27 (by decide), hJ.2.2 37 (by decide), hJ.2.2 23 (by decide), hJ.2.2 24 (by decide), hJ.2.2 25 (by decide)]
  exact hI
