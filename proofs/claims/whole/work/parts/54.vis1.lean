/-! ways of sharing houses out, by their numbers: digits in base V + 1, the first house first; digit V: nobody -/
theorem sumR_s {f : Nat → Nat} {n : Nat} : sumR f (n + 1) = sumR f n + f n := rfl
theorem sumR_le {f : Nat → Nat} {a : Nat} : ∀ b, a ≤ b → sumR f a ≤ sumR f b
  | 0, h => by
    obtain rfl : a = 0 := by omega
    exact Nat.le_refl _
  | b + 1, h => by
    by_cases e : a = b + 1
    · rw [e]; exact Nat.le_refl _
    · have := sumR_le (f := f) b (show a ≤ b by omega)
      rw [sumR_s]
      omega
theorem sumR_bd {f : Nat → Nat} {m : Nat} : ∀ n, (∀ k, k < n → f k ≤ m) → sumR f n ≤ m * n
  | 0, _ => Nat.le_refl _
  | n + 1, h => by
    have h1 := sumR_bd n (fun k hk => h k (by omega))
    have h2 := h n (by omega)
    unfold sumR
    rw [Nat.mul_succ]
    omega
theorem sumR_zero {f : Nat → Nat} : ∀ n, (∀ k, k < n → f k = 0) → sumR f n = 0
  | 0, _ => rfl
  | n + 1, h => by
    unfold sumR
    rw [sumR_zero n (fun k hk => h k (by omega)), h n (by omega)]
theorem sumR_ge {f g : Nat → Nat} {a : Nat} : ∀ b, a ≤ b → (∀ k, a ≤ k → k < b → g k ≤ f k) → sumR f a + (sumR g b - sumR g a) ≤ sumR f b
  | 0, h, _ => by
    obtain rfl : a = 0 := by omega
    unfold sumR
    omega
  | b + 1, h, hg => by
    by_cases e : a = b + 1
    · rw [e]; omega
    · have h1 := sumR_ge (f := f) (g := g) b (show a ≤ b by omega) (fun k k1 k2 => hg k k1 (by omega))
      have h2 := hg b (by omega) (by omega)
      rw [sumR_s, sumR_s]
      omega
theorem sumR_ex {f : Nat → Nat} : ∀ n, 0 < sumR f n → ∃ v, v < n ∧ 0 < f v
  | 0, h => by unfold sumR at h; omega
  | n + 1, h => by
    by_cases e : 0 < f n
    · exact ⟨n, by omega, e⟩
    · obtain ⟨v, h1, h2⟩ := sumR_ex (f := f) n (by rw [sumR_s] at h; omega)
      exact ⟨v, by omega, h2⟩
theorem sumR_dec {f g : Nat → Nat} {v : Nat} : ∀ n, v < n → g v + 1 = f v → (∀ k, k ≠ v → g k = f k) → sumR g n + 1 = sumR f n
  | 0, h, _, _ => by omega
  | n + 1, h, h1, h2 => by
    by_cases e : v = n
    · subst e
      unfold sumR
      rw [sumR_same (R := f) (R' := g) v (fun i hi => h2 i (by omega))]
      omega
    · have := sumR_dec n (by omega) h1 h2
      have h3 := h2 n (fun z => e z.symm)
      unfold sumR
      omega
theorem sumR_mono {f g : Nat → Nat} : ∀ n, (∀ k, k < n → f k ≤ g k) → sumR f n ≤ sumR g n
  | 0, _ => Nat.le_refl _
  | n + 1, h => by
    have h1 := sumR_mono n (fun k hk => h k (by omega))
    have h2 := h n (by omega)
    unfold sumR
    omega
def dgg (B n p k : Nat) : Nat := p / B ^ (n - 1 - k) % B
theorem dgg_lt {V n p k : Nat} : dgg (V + 1) n p k < V + 1 := Nat.mod_lt _ (by omega)
theorem dgg_pre {B N c a k : Nat} (hk : k < a) (ha : a ≤ N) : dgg B N c k = dgg B a (c / B ^ (N - a)) k := by
  unfold dgg
  rw [Nat.div_div_eq_div_mul, ← Nat.pow_add, show N - a + (a - 1 - k) = N - 1 - k by omega]
theorem dgg_last {B a p v : Nat} (hv : v < B) : dgg B (a + 1) (p * B + v) a = v := by
  unfold dgg
  rw [show a + 1 - 1 - a = 0 by omega, Nat.pow_zero, Nat.div_one, Nat.mul_comm, Nat.mul_add_mod, Nat.mod_eq_of_lt hv]
theorem dv {B p v : Nat} (hv : v < B) : (p * B + v) / B = p := by
  rw [Nat.mul_comm, Nat.mul_add_div (by omega), Nat.div_eq_of_lt hv, Nat.add_zero]
theorem dgg_old {B a p v k : Nat} (hv : v < B) (hk : k < a) : dgg B (a + 1) (p * B + v) k = dgg B a p k := by
  rw [dgg_pre (a := a) hk (by omega), show a + 1 - a = 1 by omega, Nat.pow_one, dv hv]
def cN (B n p v j : Nat) : Nat := sumR (fun k => if dgg B n p k = v then 1 else 0) j
def fA (V : Nat) (cost : Nat → Nat → Nat) (n p j : Nat) : Nat := sumR (fun k => if dgg (V + 1) n p k = V then 0 else cost k (dgg (V + 1) n p k)) j
theorem cN_pre {B N c a v : Nat} (ha : a ≤ N) : cN B N c v a = cN B a (c / B ^ (N - a)) v a := sumR_same a (fun k hk => by simp only [dgg_pre hk ha])
theorem fA_pre {V N c a : Nat} {cost : Nat → Nat → Nat} (ha : a ≤ N) : fA V cost N c a = fA V cost a (c / (V + 1) ^ (N - a)) a := sumR_same a (fun k hk => by simp only [dgg_pre hk ha])
theorem cN_step {B a p v v' : Nat} (hv : v < B) : cN B (a + 1) (p * B + v) v' (a + 1) = cN B a p v' a + (if v = v' then 1 else 0) := by
  unfold cN
  rw [show sumR (fun k => if dgg B (a + 1) (p * B + v) k = v' then 1 else 0) (a + 1) = sumR (fun k => if dgg B (a + 1) (p * B + v) k = v' then 1 else 0) a + (if dgg B (a + 1) (p * B + v) a = v' then 1 else 0) from rfl, dgg_last hv]
  congr 1
  exact sumR_same a (fun k hk => by simp only [dgg_old hv hk])
theorem fA_step {V a p v : Nat} {cost : Nat → Nat → Nat} (hv : v < V + 1) : fA V cost (a + 1) (p * (V + 1) + v) (a + 1) = fA V cost a p a + (if v = V then 0 else cost a v) := by
  unfold fA
  rw [show sumR (fun k => if dgg (V + 1) (a + 1) (p * (V + 1) + v) k = V then 0 else cost k (dgg (V + 1) (a + 1) (p * (V + 1) + v) k)) (a + 1) = sumR (fun k => if dgg (V + 1) (a + 1) (p * (V + 1) + v) k = V then 0 else cost k (dgg (V + 1) (a + 1) (p * (V + 1) + v) k)) a + (if dgg (V + 1) (a + 1) (p * (V + 1) + v) a = V then 0 else cost a (dgg (V + 1) (a + 1) (p * (V + 1) + v) a)) from rfl, dgg_last hv]
  congr 1
  exact sumR_same a (fun k hk => by simp only [dgg_old hv hk])
/-- a way (or its beginning) that the wards and rooms allow -/
def NP (V : Nat) (vw : Fn) (w : Int32) (many : Nat → Nat) (n p : Nat) : Prop := (∀ k, k < n → dgg (V + 1) n p k = V ∨ vw (dgg (V + 1) n p k) = w) ∧ (∀ v, v < V → cN (V + 1) n p v n ≤ many v)
def GP (V : Nat) (vw : Fn) (w : Int32) (many : Nat → Nat) (u n p : Nat) : Prop := NP V vw w many n p ∧ cN (V + 1) n p V n ≤ u
theorem GP.pre {V : Nat} {vw : Fn} {w : Int32} {many : Nat → Nat} {u N c a : Nat} (h : GP V vw w many u N c) (ha : a ≤ N) : GP V vw w many u a (c / (V + 1) ^ (N - a)) := by
  refine ⟨⟨fun k hk => ?_, fun v hv => ?_⟩, ?_⟩
  · rw [← dgg_pre hk ha]
    exact h.1.1 k (by omega)
  · rw [← cN_pre ha]
    exact Nat.le_trans (sumR_le N ha) (h.1.2 v hv)
  · rw [← cN_pre ha]
    exact Nat.le_trans (sumR_le N ha) h.2
theorem GP.step {V : Nat} {vw : Fn} {w : Int32} {many : Nat → Nat} {u a p v : Nat} (h : GP V vw w many u a p) (hv : v < V) (hw : vw v = w) (hr : cN (V + 1) a p v a < many v) : GP V vw w many u (a + 1) (p * (V + 1) + v) := by
  refine ⟨⟨fun k hk => ?_, fun v' hv' => ?_⟩, ?_⟩
  · by_cases e : k = a
    · subst e
      rw [dgg_last (by omega)]
      exact Or.inr hw
    · rw [dgg_old (by omega) (by omega)]
      exact h.1.1 k (by omega)
  · rw [cN_step (by omega)]
    by_cases e : v = v'
    · rw [if_pos e, ← e]; omega
    · rw [if_neg e]; exact h.1.2 v' hv'
  · rw [cN_step (by omega), if_neg (by omega)]
    exact h.2
theorem GP.stepV {V : Nat} {vw : Fn} {w : Int32} {many : Nat → Nat} {u a p : Nat} (h : GP V vw w many u a p) (hr : cN (V + 1) a p V a < u) : GP V vw w many u (a + 1) (p * (V + 1) + V) := by
  refine ⟨⟨fun k hk => ?_, fun v' hv' => ?_⟩, ?_⟩
  · by_cases e : k = a
    · subst e
      rw [dgg_last (by omega)]
      exact Or.inl rfl
    · rw [dgg_old (by omega) (by omega)]
      exact h.1.1 k (by omega)
  · rw [cN_step (by omega), if_neg (by omega)]
    exact h.1.2 v' hv'
  · rw [cN_step (by omega), if_pos rfl]
    omega
theorem GP.last {V : Nat} {vw : Fn} {w : Int32} {many : Nat → Nat} {u a p v : Nat} (h : GP V vw w many u (a + 1) (p * (V + 1) + v)) (hv : v < V + 1) : (v = V ∨ vw v = w) ∧ (v < V → cN (V + 1) a p v a < many v) ∧ (v = V → cN (V + 1) a p V a < u) := by
  refine ⟨?_, fun z => ?_, fun z => ?_⟩
  · have := h.1.1 a (by omega)
    rw [dgg_last hv] at this
    exact this
  · have := h.1.2 v z
    rw [cN_step hv, if_pos rfl] at this
    omega
  · have := h.2
    rw [cN_step hv, if_pos z] at this
    omega
/-! there is a way that leaves no more unvisited than must be -/
def rms (vw : Fn) (w : Int32) (r : Nat → Nat) : Nat → Nat := sumR (fun v => if vw v = w then r v else 0)
theorem ex_good {V : Nat} {vw : Fn} {w : Int32} : ∀ n (r : Nat → Nat) u, n ≤ rms vw w r V + u → ∃ p, p < (V + 1) ^ n ∧ GP V vw w r u n p
  | 0, r, u, _ => ⟨0, by rw [Nat.pow_zero]; omega, ⟨⟨fun k hk => by omega, fun v hv => by unfold cN sumR; omega⟩, by unfold cN sumR; omega⟩⟩
  | n + 1, r, u, h => by
    by_cases hu : 0 < u
    · obtain ⟨p, h1, h2⟩ := ex_good (V := V) (vw := vw) (w := w) n r (u - 1) (by omega)
      refine ⟨p * (V + 1) + V, ?_, GP.stepV (u := u) ⟨h2.1, by have := h2.2; omega⟩ (by have := h2.2; omega)⟩
      rw [Nat.pow_succ]
      have := Nat.mul_le_mul_right (V + 1) (show p + 1 ≤ (V + 1) ^ n by omega)
      rw [Nat.succ_mul] at this
      omega
    · obtain ⟨v, v1, v2⟩ := sumR_ex (f := fun v => if vw v = w then r v else 0) V (by unfold rms at h; omega)
      by_cases hw : vw v = w
      · rw [if_pos hw] at v2
        have hd : rms vw w (va_up r v (r v - 1)) V + 1 = rms vw w r V := by
          unfold rms
          refine sumR_dec (v := v) V v1 ?_ (fun k hk => ?_)
          · rw [if_pos hw, if_pos hw, up_s]
            omega
          · rw [up_n hk]
        obtain ⟨p, h1, h2⟩ := ex_good (V := V) (vw := vw) (w := w) n (va_up r v (r v - 1)) u (by omega)
        have hle : ∀ v', va_up r v (r v - 1) v' ≤ r v' := fun v' => by
          by_cases e : v' = v
          · rw [e, up_s]; omega
          · rw [up_n e]; exact Nat.le_refl _
        refine ⟨p * (V + 1) + v, ?_, GP.step (u := u) ⟨⟨h2.1.1, fun v' hv' => Nat.le_trans (h2.1.2 v' hv') (hle v')⟩, h2.2⟩ v1 hw ?_⟩
        · rw [Nat.pow_succ]
          have := Nat.mul_le_mul_right (V + 1) (show p + 1 ≤ (V + 1) ^ n by omega)
          rw [Nat.succ_mul] at this
          omega
        · have := h2.1.2 v v1
          rw [up_s] at this
          omega
      · rw [if_neg hw] at v2
        omega
/-! and none leaves fewer -/
theorem one_sum {d : Nat} : ∀ B, sumR (fun v => if d = v then 1 else 0) B = if d < B then 1 else 0
  | 0 => by rw [if_neg (by omega)]; rfl
  | B + 1 => by
    rw [show sumR (fun v => if d = v then 1 else 0) (B + 1) = sumR (fun v => if d = v then 1 else 0) B + (if d = B then 1 else 0) from rfl, one_sum B]
    by_cases e : d = B
    · rw [if_pos e, if_neg (by omega), if_pos (by omega)]
    · rw [if_neg e]
      by_cases e2 : d < B
      · rw [if_pos e2, if_pos (by omega)]
      · rw [if_neg e2, if_neg (by omega)]
theorem sumR_add {f g : Nat → Nat} : ∀ n, sumR (fun v => f v + g v) n = sumR f n + sumR g n
  | 0 => rfl
  | n + 1 => by
    unfold sumR
    rw [sumR_add n]
    omega
theorem cN_all {V n p : Nat} : ∀ j, sumR (fun v => cN (V + 1) n p v j) (V + 1) = j
  | 0 => sumR_zero _ (fun k _ => rfl)
  | j + 1 => by
    have e : (fun v => cN (V + 1) n p v (j + 1)) = fun v => cN (V + 1) n p v j + (if dgg (V + 1) n p j = v then 1 else 0) := rfl
    rw [e, sumR_add, cN_all j, one_sum, if_pos dgg_lt]
theorem NP.most {V : Nat} {vw : Fn} {w : Int32} {many : Nat → Nat} {n p : Nat} (h : NP V vw w many n p) : n ≤ rms vw w many V + cN (V + 1) n p V n := by
  have h1 := cN_all (V := V) (n := n) (p := p) n
  have h2 : sumR (fun v => cN (V + 1) n p v n) (V + 1) = sumR (fun v => cN (V + 1) n p v n) V + cN (V + 1) n p V n := rfl
  have h3 : sumR (fun v => cN (V + 1) n p v n) V ≤ rms vw w many V := by
    refine sumR_mono V (fun v hv => ?_)
    by_cases hw : vw v = w
    · rw [if_pos hw]; exact h.2 v hv
    · rw [if_neg hw]
      refine Nat.le_of_eq (sumR_zero n (fun k hk => ?_))
      rw [if_neg]
      intro z
      rcases h.1 k hk with q | q
      · omega
      · rw [z] at q; exact hw q
  omega
