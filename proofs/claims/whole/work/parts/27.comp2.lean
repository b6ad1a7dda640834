theorem CHouse.new {Hn n : Nat} {kd kd' ha ha' : Nat → Nat} {f f' : Nat → Fn} {wd pl fo ne lo go at_ fe wd' pl' fo' ne' lo' go' at' fe' : Fn} (h : CHouse Hn kd ha f wd pl fo ne lo go at_ fe) (hH : Hn < 30) (hkn : ∀ a, kd a ≠ 0 → a < n) (hkd : ∀ a, kd a = 4 → kd' a = 4) (hkdn : kd' n = 4) (ho : ∀ k, ¬ k = Hn → ha' k = ha k) (hs : ha' Hn = n)
    (hf : ∀ k, k < Hn → ¬ k = Hn → ¬ ha k = n → (∀ j, f' (ha k) j = f (ha k) j) ∧ wd' k = wd k ∧ pl' k = pl k ∧ fo' k = fo k ∧ ne' k = ne k ∧ lo' k = lo k ∧ go' k = go k ∧ at' k = at_ k ∧ fe' k = fe k)
    (hw : f' n 0 = wd' Hn ∧ f' n 1 = pl' Hn ∧ f' n 2 = fo' Hn / 10 ∧ f' n 3 = rmd (fo' Hn) 10 ∧ f' n 4 = ne' Hn ∧ f' n 5 = lo' Hn ∧ f' n 6 = go' Hn ∧ f' n 7 = at' Hn ∧ f' n 8 = fe' Hn)
    (hc : (∃ w : Nat, w < 6 ∧ wd' Hn = nI w) ∧ (∃ p : Nat, p < 100 ∧ pl' Hn = nI p) ∧ (ne' Hn = -1 ↔ lo' Hn = -1)) (hg : ∀ k, Hn ≤ k → go' k = go k ∧ at' k = at_ k) : CHouse (Hn + 1) kd' ha' f' wd' pl' fo' ne' lo' go' at' fe' := by
  have hne : ∀ k, k < Hn → ¬ ha k = n := fun k hk => kdne hkn (by rw [h.2.1 k hk]; decide)
  have cas : ∀ k, k < Hn + 1 → k = Hn ∨ (k < Hn ∧ ¬ k = Hn) := fun k hk => by omega
  refine ⟨by omega, fun k hk => ?_, fun i j hi hj e => ?_, fun k hk => ?_, fun k hk => ?_, fun k hk => ?_⟩
  · rcases cas k hk with rfl | ⟨k1, k2⟩
    · rw [hs]; exact hkdn
    · rw [ho k k2]; exact hkd _ (h.2.1 k k1)
  · rcases cas i hi with rfl | ⟨i1, i2⟩ <;> rcases cas j hj with rfl | ⟨j1, j2⟩
    · rfl
    · rw [hs, ho j j2] at e; exact absurd e.symm (hne j j1)
    · rw [hs, ho i i2] at e; exact absurd e (hne i i1)
    · rw [ho i i2, ho j j2] at e; exact h.2.2.1 i j i1 j1 e
  · rcases cas k hk with rfl | ⟨k1, k2⟩
    · rw [hs]; exact hw
    · obtain ⟨q0, q1, q2, q3, q4, q5, q6, q7, q8⟩ := hf k k1 k2 (hne k k1)
      rw [ho k k2, q0, q0, q0, q0, q0, q0, q0, q0, q0, q1, q2, q3, q4, q5, q6, q7, q8]
      exact h.2.2.2.1 k k1
  · rcases cas k hk with rfl | ⟨k1, k2⟩
    · exact hc
    · obtain ⟨q0, q1, q2, q3, q4, q5, q6, q7, q8⟩ := hf k k1 k2 (hne k k1)
      rw [q1, q2, q4, q5]
      exact h.2.2.2.2.1 k k1
  · obtain ⟨a1, a2⟩ := hg k (by omega)
    rw [a1, a2]
    exact h.2.2.2.2.2 k (by omega)
theorem CVis.new {V n : Nat} {kd kd' va va' : Nat → Nat} {f f' : Nat → Fn} {vw vp vm vw' vp' vm' : Fn} (h : CVis V kd va f vw vp vm) (hV : V < 4) (hkn : ∀ a, kd a ≠ 0 → a < n) (hkd : ∀ a, kd a = 10 → kd' a = 10) (hkdn : kd' n = 10) (ho : ∀ k, ¬ k = V → va' k = va k) (hs : va' V = n)
    (hf : ∀ k, k < V → ¬ k = V → ¬ va k = n → (∀ j, f' (va k) j = f (va k) j) ∧ vw' k = vw k ∧ vp' k = vp k ∧ vm' k = vm k)
    (hw : f' n 0 = vw' V ∧ f' n 1 = vp' V ∧ f' n 2 = vm' V ∧ (∃ w : Nat, w < 6 ∧ vw' V = nI w) ∧ (∃ p : Nat, p < 100 ∧ vp' V = nI p) ∧ (∃ k : Nat, 1 ≤ k ∧ k ≤ 8 ∧ vm' V = nI k)) : CVis (V + 1) kd' va' f' vw' vp' vm' := by
  refine ⟨by omega, fun k hk => ?_⟩
  rcases (show k = V ∨ (k < V ∧ ¬ k = V) by omega) with rfl | ⟨k1, k2⟩
  · rw [hs]; exact ⟨hkdn, hw⟩
  · obtain ⟨q0, q1, q2, q3⟩ := hf k k1 k2 (kdne hkn (by rw [(h.2 k k1).1]; decide))
    rw [ho k k2, q0, q0, q0, q1, q2, q3]
    exact ⟨hkd _ (h.2 k k1).1, (h.2 k k1).2⟩
theorem bx_zero {f : Fn} {n : Nat} (h : ∀ c, c < n → f c = 0) : bx_sum f n = 0 := by
  induction n with
  | zero => rfl
  | succ n ih =>
    show bx_sum f n + f n = 0
    rw [ih (fun c hc => h c (by omega)), h n (by omega)]
    rfl
theorem CSub.new {S C n : Nat} {kd kd' sa sa' : Nat → Nat} {f f' : Nat → Fn} {coins vot oo st bb : Fn} (h : CSub S C kd sa f coins vot oo st bb) (hS : S < 20) (hkn : ∀ a, kd a ≠ 0 → a < n) (hkd : ∀ a, kd a = 9 → kd' a = 9) (hkdn : kd' n = 9) (ho : ∀ k, ¬ k = S → sa' k = sa k) (hs : sa' S = n) (hoo : ∀ c, c < C → ∃ g : Nat, g < S ∧ oo c = nI g)
    (hf : ∀ k, k < S → ¬ sa k = n → ∀ j, f' (sa k) j = f (sa k) j) (hw : f' n 0 = 0 ∧ f' n 1 = 0 ∧ f' n 2 = 0 ∧ f' n 3 = 0 ∧ f' n 4 = 0) : CSub (S + 1) C kd' sa' f' coins vot oo st bb := by
  have hne : ∀ k, k < S → ¬ sa k = n := fun k hk => kdne hkn (by rw [h.2.1 k hk]; decide)
  have cas : ∀ k, k < S + 1 → k = S ∨ (k < S ∧ ¬ k = S) := fun k hk => by omega
  have hno : ∀ c, c < C → ¬ oo c = nI S := fun c hc e => by
    obtain ⟨g, g1, g2⟩ := hoo c hc
    rw [g2, nI_eq (by omega) (by omega)] at e
    omega
  refine ⟨by omega, fun k hk => ?_, fun i j hi hj e => ?_, fun k hk => ?_, fun k hk => h.2.2.2.2.1 k (by omega), h.2.2.2.2.2.1, fun k hk => ?_⟩
  · rcases cas k hk with rfl | ⟨k1, k2⟩
    · rw [hs]; exact hkdn
    · rw [ho k k2]; exact hkd _ (h.2.1 k k1)
  · rcases cas i hi with rfl | ⟨i1, i2⟩ <;> rcases cas j hj with rfl | ⟨j1, j2⟩
    · rfl
    · rw [hs, ho j j2] at e; exact absurd e.symm (hne j j1)
    · rw [hs, ho i i2] at e; exact absurd e (hne i i1)
    · rw [ho i i2, ho j j2] at e; exact h.2.2.1 i j i1 j1 e
  · rcases cas k hk with rfl | ⟨k1, k2⟩
    · rw [hs]
      obtain ⟨w0, w1, w2, w3, w4⟩ := hw
      obtain ⟨c0, c1⟩ := h.2.2.2.2.1 k (Nat.le_refl _)
      refine ⟨w0.trans c0.symm, w4.trans c1.symm, w1.trans (bx_zero fun c hc => ?_).symm, w2.trans (bx_zero fun c hc => ?_).symm, w3.trans (bx_zero fun c hc => ?_).symm⟩
      · unfold cnt1; rw [if_neg (hno c hc)]
      · unfold cnt2; rw [if_neg (hno c hc)]
      · unfold cnt3; rw [if_neg (hno c hc)]
    · rw [ho k k2, hf k k1 (hne k k1), hf k k1 (hne k k1), hf k k1 (hne k k1), hf k k1 (hne k k1), hf k k1 (hne k k1)]
      exact h.2.2.2.1 k k1
  · rcases cas k hk with rfl | ⟨k1, k2⟩
    · exact ⟨0, (h.2.2.2.2.1 k (Nat.le_refl _)).1, by omega⟩
    · exact h.2.2.2.2.2.2 k k1
theorem CSub.upd {S C : Nat} {kd sa : Nat → Nat} {f f' : Nat → Fn} {coins vot vot' oo st bb : Fn} (h : CSub S C kd sa f coins vot oo st bb) {i : Nat} (hi : i < S)
    (hf : ∀ k, k < S → ¬ k = i → ¬ sa k = sa i → (∀ j, f' (sa k) j = f (sa k) j)) (hv : ∀ k, ¬ k = i → vot' k = vot k)
    (hw : f' (sa i) 0 = f (sa i) 0 ∧ f' (sa i) 4 = vot' i ∧ f' (sa i) 1 = f (sa i) 1 ∧ f' (sa i) 2 = f (sa i) 2 ∧ f' (sa i) 3 = f (sa i) 3) (hb : vot' i = 0 ∨ vot' i = 1) : CSub S C kd sa f' coins vot' oo st bb := by
  refine ⟨h.1, h.2.1, h.2.2.1, fun k hk => ?_, fun k hk => ?_, fun k => ?_, h.2.2.2.2.2.2⟩
  · by_cases e : k = i
    · subst e
      obtain ⟨w0, w1, w2, w3, w4⟩ := hw
      obtain ⟨g0, g1, g2, g3, g4⟩ := h.2.2.2.1 k hk
      exact ⟨w0.trans g0, w1, w2.trans g2, w3.trans g3, w4.trans g4⟩
    · have q := hf k hk e (fun z => e (h.2.2.1 k i hk hi z))
      rw [q, q, q, q, q, hv k e]
      exact h.2.2.2.1 k hk
  · rw [hv k (by omega)]
    exact h.2.2.2.2.1 k hk
  · by_cases e : k = i
    · subst e; exact hb
    · rw [hv k e]; exact h.2.2.2.2.2.1 k
theorem le8 {x : Int32} : (x ≤ 8) = (¬ 9 ≤ x) := by
  have h : (8 < x) = (9 ≤ x) := lts (by decide)
  rw [← h, igt, Classical.not_not]
theorem i_32 : ((3 : Int32) = 2) = False := by decide
