/-! the least sum, the first in order: what the search holds when all ways below K are done -/
def enc (V v : Nat) : Int32 := if v = V then -1 else nI v
def BI (V : Nat) (vw : Fn) (w : Int32) (many : Nat → Nat) (cost : Nat → Nat → Nat) (u N : Nat) (bst : Fn) (bs K : Nat) : Prop :=
  bs ≤ 600 ∧ (∀ c, c < K → GP V vw w many u N c → bs ≤ fA V cost N c N) ∧ (bs = 600 ∨ ∃ cb, cb < K ∧ GP V vw w many u N cb ∧ fA V cost N cb N = bs ∧ (∀ k, k < N → bst k = enc V (dgg (V + 1) N cb k)) ∧ ∀ c, c < cb → GP V vw w many u N c → bs < fA V cost N c N)
section BIS
variable {V : Nat} {vw : Fn} {w : Int32} {many : Nat → Nat} {cost : Nat → Nat → Nat} {u N : Nat} {bst bst' : Fn} {bs K K' : Nat}
theorem BI.skip (h : BI V vw w many cost u N bst bs K) (hK : K ≤ K') (hs : ∀ c, K ≤ c → c < K' → GP V vw w many u N c → bs ≤ fA V cost N c N) : BI V vw w many cost u N bst bs K' := by
  refine ⟨h.1, fun c hc hg => ?_, ?_⟩
  · rcases Nat.lt_or_ge c K with z | z
    · exact h.2.1 c z hg
    · exact hs c z hc hg
  · rcases h.2.2 with z | ⟨cb, c1, c2⟩
    · exact Or.inl z
    · exact Or.inr ⟨cb, by omega, c2⟩
theorem BI.leaf (h : BI V vw w many cost u N bst bs K) (hg : GP V vw w many u N K) (hl : fA V cost N K N < bs) (hb : ∀ k, k < N → bst' k = enc V (dgg (V + 1) N K k)) : BI V vw w many cost u N bst' (fA V cost N K N) (K + 1) := by
  have h6 := h.1
  refine ⟨by omega, fun c hc hgc => ?_, Or.inr ⟨K, by omega, hg, rfl, hb, fun c hc hgc => ?_⟩⟩
  · by_cases e : c = K
    · rw [e]; exact Nat.le_refl _
    · have := h.2.1 c (by omega) hgc
      omega
  · have := h.2.1 c hc hgc
    omega
theorem BI.cong (h : BI V vw w many cost u N bst bs K) (hb : ∀ k, k < N → bst' k = bst k) : BI V vw w many cost u N bst' bs K := by
  refine ⟨h.1, h.2.1, ?_⟩
  rcases h.2.2 with z | ⟨cb, c1, c2, c3, c4, c5⟩
  · exact Or.inl z
  · exact Or.inr ⟨cb, c1, c2, c3, fun k hk => (hb k hk).trans (c4 k hk), c5⟩
theorem rng {B m q c : Nat} (h1 : q * B ^ m ≤ c) (h2 : c < (q + 1) * B ^ m) : c / B ^ m = q := by
  have hp : 0 < B ^ m := by
    rcases Nat.eq_zero_or_pos (B ^ m) with z | z
    · rw [z] at h2; omega
    · exact z
  have a1 : q ≤ c / B ^ m := (Nat.le_div_iff_mul_le hp).mpr h1
  have a2 : c / B ^ m < q + 1 := (Nat.div_lt_iff_lt_mul hp).mpr h2
  omega
/-- digits that no way can have here -/
theorem BI.bad {a k p q q' : Nat} (ha : a + (k + 1) = N) : ∀ j, q + j = q' → q' ≤ V + 1 → (∀ v, q ≤ v → v < q' → ¬ GP V vw w many u (a + 1) (p * (V + 1) + v)) → BI V vw w many cost u N bst bs ((p * (V + 1) + q) * (V + 1) ^ k) → BI V vw w many cost u N bst bs ((p * (V + 1) + q') * (V + 1) ^ k)
  | 0, hj, _, _, h => by
    obtain rfl : q = q' := by omega
    exact h
  | j + 1, hj, hq, hb, h => by
    have h1 := BI.bad (q := q) (q' := q + j) ha j rfl (by omega) (fun v v1 v2 => hb v v1 (by omega)) h
    obtain rfl : q' = q + j + 1 := by omega
    refine h1.skip (Nat.mul_le_mul_right _ (by omega)) (fun c c1 c2 hg => ?_)
    have e : c / (V + 1) ^ k = p * (V + 1) + (q + j) := rng c1 (by rw [show p * (V + 1) + (q + j) + 1 = p * (V + 1) + (q + j + 1) by omega]; exact c2)
    have hg2 := hg.pre (a := a + 1) (by omega)
    rw [show N - (a + 1) = k by omega, e] at hg2
    exact absurd hg2 (hb (q + j) (by omega) (by omega))
/-! the least ways -/
def mW (cost : Nat → Nat → Nat) (vn : Nat → Nat) (k : Nat) : Nat → Nat
  | 0 => 100
  | i + 1 => min (mW cost vn k i) (cost k (vn i))
theorem mW_le {vn : Nat → Nat} {k : Nat} : ∀ M, mW cost vn k M ≤ 100
  | 0 => Nat.le_refl _
  | M + 1 => by
    have : mW cost vn k M ≤ 100 := mW_le M
    unfold mW
    omega
theorem mW_at {vn : Nat → Nat} {k i : Nat} : ∀ M, i < M → mW cost vn k M ≤ cost k (vn i)
  | 0, h => by omega
  | M + 1, h => by
    unfold mW
    by_cases e : i = M
    · rw [e]; omega
    · have : mW cost vn k M ≤ cost k (vn i) := mW_at M (by omega)
      omega
def lfv (cost : Nat → Nat → Nat) (vn : Nat → Nat) (M u N a : Nat) : Nat := if 0 < u then 0 else sumR (fun k => mW cost vn k M) N - sumR (fun k => mW cost vn k M) a
theorem lfv_ok {vn : Nat → Nat} {M a c : Nat} (hM : ∀ v, v < V → vw v = w → ∃ i, i < M ∧ v = vn i) (hg : GP V vw w many u N c) (ha : a ≤ N) : fA V cost N c a + lfv cost vn M u N a ≤ fA V cost N c N := by
  unfold lfv
  by_cases hu : 0 < u
  · rw [if_pos hu]
    exact sumR_le N ha
  · rw [if_neg hu]
    refine sumR_ge N ha (fun k k1 k2 => ?_)
    have hne : ¬ dgg (V + 1) N c k = V := fun z => by
      have h1 : sumR (fun k => if dgg (V + 1) N c k = V then 1 else 0) (k + 1) ≤ cN (V + 1) N c V N := sumR_le N (by omega)
      rw [sumR_s, if_pos z] at h1
      have := hg.2
      omega
    rw [if_neg hne]
    rcases hg.1.1 k k2 with z | z
    · exact absurd z hne
    · have hl := dgg_lt (V := V) (n := N) (p := c) (k := k)
      obtain ⟨i, hi, e⟩ := hM _ (by omega) z
      rw [e]
      exact mW_at M hi
theorem fA_bd {n p j : Nat} (hj : j ≤ n) (hc : ∀ k v, k < n → v < V → cost k v ≤ 99) : fA V cost n p j ≤ 99 * j := by
  refine sumR_bd j (fun k hk => ?_)
  by_cases e : dgg (V + 1) n p k = V
  · rw [if_pos e]; omega
  · rw [if_neg e]
    have := dgg_lt (V := V) (n := n) (p := p) (k := k)
    exact hc k _ (by omega) (by omega)
/-! what the reference holds when all ways below K are done -/
def mn (V N c : Nat) : Nat := N - cN (V + 1) N c V N
def MI (V : Nat) (vw : Fn) (w : Int32) (many : Nat → Nat) (cost : Nat → Nat → Nat) (N : Nat) (bm bf bc : Int32) (K : Nat) : Prop :=
  (bm = -1 ∧ ∀ c, c < K → ¬ NP V vw w many N c) ∨ ∃ cb, cb < K ∧ NP V vw w many N cb ∧ bm = nI (mn V N cb) ∧ bf = nI (fA V cost N cb N) ∧ bc = nI cb ∧ ∀ c, c < K → NP V vw w many N c → mn V N c < mn V N cb ∨ (mn V N c = mn V N cb ∧ (fA V cost N cb N < fA V cost N c N ∨ (fA V cost N c N = fA V cost N cb N ∧ cb ≤ c)))
theorem MI.bad {bm bf bc : Int32} (h : MI V vw w many cost N bm bf bc K) (hn : ¬ NP V vw w many N K) : MI V vw w many cost N bm bf bc (K + 1) := by
  rcases h with ⟨h1, h2⟩ | ⟨cb, h1, h2, h3, h4, h5, h6⟩
  · refine Or.inl ⟨h1, fun c hc => ?_⟩
    by_cases e : c = K
    · rw [e]; exact hn
    · exact h2 c (by omega)
  · refine Or.inr ⟨cb, by omega, h2, h3, h4, h5, fun c hc hg => ?_⟩
    by_cases e : c = K
    · rw [e] at hg; exact absurd hg hn
    · exact h6 c (by omega) hg
theorem cN_le {B n p v : Nat} : ∀ j, cN B n p v j ≤ j
  | 0 => Nat.le_refl _
  | j + 1 => by
    have := cN_le (B := B) (n := n) (p := p) (v := v) j
    have e : cN B n p v (j + 1) = cN B n p v j + (if dgg B n p j = v then 1 else 0) := rfl
    rw [e]
    by_cases q : dgg B n p j = v
    · rw [if_pos q]; omega
    · rw [if_neg q]; omega
/-- class and reference choose the same way -/
theorem agree {bm bf bc : Int32} (hc : ∀ k v, k < N → v < V → cost k v ≤ 99) (hN6 : N ≤ 6) (hu : u = N - rms vw w many V) (hB : BI V vw w many cost u N bst bs ((V + 1) ^ N)) (hM : MI V vw w many cost N bm bf bc ((V + 1) ^ N)) : ∃ cb, cb < (V + 1) ^ N ∧ fA V cost N cb N = bs ∧ bf = nI bs ∧ bc = nI cb ∧ (∀ k, k < N → bst k = enc V (dgg (V + 1) N cb k)) := by
  obtain ⟨p, p1, p2⟩ := ex_good (V := V) (vw := vw) (w := w) N many u (by omega)
  have hp := hB.2.1 p p1 p2
  have hpb := fA_bd (V := V) (cost := cost) (n := N) (p := p) (Nat.le_refl N) hc
  rcases hB.2.2 with z | ⟨cb, c1, c2, c3, c4, c5⟩
  · omega
  rcases hM with ⟨h1, h2⟩ | ⟨cm, h1, h2, h3, h4, h5, h6⟩
  · exact absurd c2.1 (h2 cb c1)
  have a1 := h2.most
  have a2 := c2.2
  have a3 := cN_le (B := V + 1) (n := N) (p := cm) (v := V) N
  have a4 := cN_le (B := V + 1) (n := N) (p := cb) (v := V) N
  have a5 := h6 cb c1 c2.1
  unfold mn at a5
  have hgm : GP V vw w many u N cm := ⟨h2, by omega⟩
  have b1 := hB.2.1 cm h1 hgm
  have e : cm = cb := by
    rcases Nat.lt_trichotomy cm cb with q | q | q
    · have := c5 cm q hgm
      omega
    · exact q
    · omega
  subst e
  exact ⟨cm, c1, c3, by rw [h4, c3], h5, c4⟩
end BIS
