theorem kdm {kd : Nat → Nat} {n K c a : Nat} (hkn : ∀ a, kd a ≠ 0 → a < n) (hc : c ≠ 0) (h : kd a = c) : u1 kd n K a = c := by
  have h1 := hkn a (by rw [h]; exact hc)
  rw [u1_n (by omega)]
  exact h
theorem hkn_new {kd : Nat → Nat} {n K : Nat} (hkn : ∀ a, kd a ≠ 0 → a < n) : ∀ a, u1 kd n K a ≠ 0 → a < n + 1 := by
  intro a h
  by_cases e : a = n
  · omega
  · rw [u1_n e] at h
    have := hkn a h
    omega
theorem kdne {kd : Nat → Nat} {n a : Nat} (hkn : ∀ a, kd a ≠ 0 → a < n) (h : kd a ≠ 0) : ¬ a = n := by
  have := hkn a h
  omega
theorem bx_congr {f g : Fn} {n : Nat} (h : ∀ c, c < n → f c = g c) : bx_sum f n = bx_sum g n := by
  induction n with
  | zero => rfl
  | succ n ih =>
    show bx_sum f n + f n = bx_sum g n + g n
    rw [ih (fun c hc => h c (by omega)), h n (by omega)]
theorem CSub.kd {S C : Nat} {kd kd' sa : Nat → Nat} {f : Nat → Fn} {coins vot oo st bb : Fn} (h : CSub S C kd sa f coins vot oo st bb) (hk : ∀ a, kd a = 9 → kd' a = 9) : CSub S C kd' sa f coins vot oo st bb := ⟨h.1, fun i hi => hk _ (h.2.1 i hi), h.2.2⟩
theorem CCard.kd {S C Hn : Nat} {kd kd' ca : Nat → Nat} {f : Nat → Fn} {st oo to us bb db : Fn} (h : CCard S C Hn kd ca f st oo to us bb db) (hk : ∀ a, kd a = 2 → kd' a = 2) : CCard S C Hn kd' ca f st oo to us bb db := ⟨h.1, fun i hi => hk _ (h.2.1 i hi), h.2.2⟩
theorem CHouse.kd {Hn : Nat} {kd kd' ha : Nat → Nat} {f : Nat → Fn} {wd pl fo ne lo go at_ fe : Fn} (h : CHouse Hn kd ha f wd pl fo ne lo go at_ fe) (hk : ∀ a, kd a = 4 → kd' a = 4) : CHouse Hn kd' ha f wd pl fo ne lo go at_ fe := ⟨h.1, fun i hi => hk _ (h.2.1 i hi), h.2.2⟩
theorem CRule.kd {P : Nat} {kd kd' ra : Nat → Nat} {pr : Nat} {f : Nat → Fn} {rw_ ru : Fn} {op ow ou : Int32} (h : CRule P kd ra pr f rw_ ru op ow ou) (hk : ∀ a, kd a = 7 → kd' a = 7) : CRule P kd' ra pr f rw_ ru op ow ou := ⟨h.1, fun i hi => ⟨hk _ (h.2.1 i hi).1, (h.2.1 i hi).2⟩, h.2.2.1, h.2.2.2.elim Or.inl (fun q => Or.inr ⟨q.1, hk _ q.2.1, q.2.2⟩)⟩
theorem CVis.kd {V : Nat} {kd kd' va : Nat → Nat} {f : Nat → Fn} {vw vp vm : Fn} (h : CVis V kd va f vw vp vm) (hk : ∀ a, kd a = 10 → kd' a = 10) : CVis V kd' va f vw vp vm := ⟨h.1, fun i hi => ⟨hk _ (h.2 i hi).1, (h.2 i hi).2⟩⟩
theorem CBook.kd {E : Nat} {kd kd' ea : Nat → Nat} {f : Nat → Fn} {ec em : Fn} {lst : Nat → Nat} (h : CBook E kd ea f ec em lst) (hk : ∀ a, kd a = 3 → kd' a = 3) : CBook E kd' ea f ec em lst := ⟨h.1, fun i hi => hk _ (h.2.1 i hi), h.2.2⟩
theorem CSub.st {S C : Nat} {kd sa : Nat → Nat} {f : Nat → Fn} {coins vot oo st st' bb : Fn} (h : CSub S C kd sa f coins vot oo st bb) (hs : ∀ c, c < C → (st' c = 2 ↔ st c = 2)) : CSub S C kd sa f coins vot oo st' bb := by
  refine ⟨h.1, h.2.1, h.2.2.1, fun i hi => ?_, h.2.2.2.2⟩
  obtain ⟨e1, e2, e3, e4, e5⟩ := h.2.2.2.1 i hi
  refine ⟨e1, e2, e3, e4.trans (bx_congr fun c hc => ?_), e5⟩
  unfold cnt2
  simp only [hs c hc]
theorem CHouse.upd {Hn : Nat} {kd ha : Nat → Nat} {f f' : Nat → Fn} {wd pl fo ne lo go at_ fe ne' lo' go' at' fe' : Fn} (h : CHouse Hn kd ha f wd pl fo ne lo go at_ fe) {i : Nat} (hi : i < Hn)
    (hf : ∀ k, k < Hn → ¬ k = i → ¬ ha k = ha i → (∀ j, f' (ha k) j = f (ha k) j) ∧ ne' k = ne k ∧ lo' k = lo k ∧ go' k = go k ∧ at' k = at_ k ∧ fe' k = fe k)
    (hw : (f' (ha i) 0 = f (ha i) 0 ∧ f' (ha i) 1 = f (ha i) 1 ∧ f' (ha i) 2 = f (ha i) 2 ∧ f' (ha i) 3 = f (ha i) 3) ∧ f' (ha i) 4 = ne' i ∧ f' (ha i) 5 = lo' i ∧ f' (ha i) 6 = go' i ∧ f' (ha i) 7 = at' i ∧ f' (ha i) 8 = fe' i) (hc : ne' i = -1 ↔ lo' i = -1)
    (hg : ∀ k, Hn ≤ k → go' k = go k ∧ at' k = at_ k) : CHouse Hn kd ha f' wd pl fo ne' lo' go' at' fe' := by
  refine ⟨h.1, h.2.1, h.2.2.1, fun k hk => ?_, fun k hk => ?_, fun k hk => ?_⟩
  · by_cases e : k = i
    · subst e
      obtain ⟨⟨w0, w1, w2, w3⟩, w4, w5, w6, w7, w8⟩ := hw
      obtain ⟨g0, g1, g2, g3, -⟩ := h.2.2.2.1 k hk
      exact ⟨w0.trans g0, w1.trans g1, w2.trans g2, w3.trans g3, w4, w5, w6, w7, w8⟩
    · obtain ⟨q0, q1, q2, q3, q4, q5⟩ := hf k hk e (fun z => e (h.2.2.1 k i hk hi z))
      rw [q0, q0, q0, q0, q0, q0, q0, q0, q0, q1, q2, q3, q4, q5]
      exact h.2.2.2.1 k hk
  · obtain ⟨a1, a2, a3⟩ := h.2.2.2.2.1 k hk
    refine ⟨a1, a2, ?_⟩
    by_cases e : k = i
    · subst e; exact hc
    · obtain ⟨q0, q1, q2, q3, q4, q5⟩ := hf k hk e (fun z => e (h.2.2.1 k i hk hi z))
      rw [q1, q2]; exact a3
  · obtain ⟨a1, a2⟩ := hg k hk
    rw [a1, a2]
    exact h.2.2.2.2.2 k hk
theorem CCard.upd {S C Hn : Nat} {kd ca : Nat → Nat} {f f' : Nat → Fn} {st oo to us bb db st' to' us' bb' db' : Fn} (h : CCard S C Hn kd ca f st oo to us bb db) {i : Nat} (hi : i < C)
    (hf : ∀ k, k < C → ¬ k = i → ¬ ca k = ca i → (∀ j, f' (ca k) j = f (ca k) j) ∧ st' k = st k ∧ to' k = to k ∧ us' k = us k ∧ bb' k = bb k ∧ db' k = db k)
    (hw : f' (ca i) 0 = f (ca i) 0 ∧ f' (ca i) 1 = st' i ∧ f' (ca i) 2 = to' i ∧ f' (ca i) 3 = us' i ∧ f' (ca i) 4 = bb' i ∧ f' (ca i) 5 = db' i)
    (hc : (st' i = 0 ∨ st' i = 1 ∨ st' i = 2 ∨ st' i = 3) ∧ (st' i = 1 → ∃ k : Nat, k < Hn ∧ to' i = nI k) ∧ (st' i ≠ 2 → bb' i = 0))
    (hg : ∀ k, C ≤ k → st' k = st k ∧ bb' k = bb k ∧ db' k = db k) : CCard S C Hn kd ca f' st' oo to' us' bb' db' := by
  refine ⟨h.1, h.2.1, h.2.2.1, fun k hk => ?_, fun k hk => ?_, fun k hk => ?_⟩
  · by_cases e : k = i
    · subst e
      obtain ⟨w0, w1⟩ := hw
      exact ⟨w0.trans (h.2.2.2.1 k hk).1, w1⟩
    · obtain ⟨q0, q1, q2, q3, q4, q5⟩ := hf k hk e (fun z => e (h.2.2.1 k i hk hi z))
      rw [q0, q0, q0, q0, q0, q0, q1, q2, q3, q4, q5]
      exact h.2.2.2.1 k hk
  · obtain ⟨a1, a2⟩ := h.2.2.2.2.1 k hk
    refine ⟨a1, ?_⟩
    by_cases e : k = i
    · subst e; exact hc
    · obtain ⟨q0, q1, q2, q3, q4, q5⟩ := hf k hk e (fun z => e (h.2.2.1 k i hk hi z))
      rw [q1, q2, q4]; exact a2
  · obtain ⟨a1, a2, a3⟩ := hg k hk
    rw [a1, a2, a3]
    exact h.2.2.2.2.2 k hk
theorem CCard.hn {S C Hn Hn' : Nat} {kd ca : Nat → Nat} {f : Nat → Fn} {st oo to us bb db : Fn} (h : CCard S C Hn kd ca f st oo to us bb db) (hh : Hn ≤ Hn') : CCard S C Hn' kd ca f st oo to us bb db := by
  refine ⟨h.1, h.2.1, h.2.2.1, h.2.2.2.1, fun i hi => ?_, h.2.2.2.2.2⟩
  obtain ⟨a1, a2, a3, a4⟩ := h.2.2.2.2.1 i hi
  exact ⟨a1, a2, fun z => by obtain ⟨k, k1, k2⟩ := a3 z; exact ⟨k, by omega, k2⟩, a4⟩
theorem CCard.hs {S S' C Hn : Nat} {kd ca : Nat → Nat} {f : Nat → Fn} {st oo to us bb db : Fn} (h : CCard S C Hn kd ca f st oo to us bb db) (hh : S ≤ S') : CCard S' C Hn kd ca f st oo to us bb db := by
  refine ⟨h.1, h.2.1, h.2.2.1, h.2.2.2.1, fun i hi => ?_, h.2.2.2.2.2⟩
  obtain ⟨⟨g, g1, g2⟩, a2⟩ := h.2.2.2.2.1 i hi
  exact ⟨⟨g, by omega, g2⟩, a2⟩
theorem nI_m1 {k : Nat} (h : k < 2 ^ 31) : ¬ nI k = -1 := by
  intro e
  have := congrArg Int32.toInt e
  rw [nI_toInt h] at this
  have e2 : (-1 : Int32).toInt = -1 := by decide
  omega
theorem ge_m1 {x : Int32} (h : 0 ≤ x) : ¬ x = -1 := by
  rintro rfl
  exact absurd h (by decide)
