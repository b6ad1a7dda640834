/-! reading behind writing -/
theorem u3_s {α : Type} {f : Nat → Nat → Nat → α} {c a j : Nat} {x : α} : u3 f c a j x c a j = x := if_pos ⟨rfl, rfl, rfl⟩
theorem u3_c {α : Type} {f : Nat → Nat → Nat → α} {c a j K : Nat} {x : α} (h : K ≠ c) : u3 f c a j x K = f K := by
  funext a' j'
  exact if_neg (fun z => h z.1)
theorem u3_a {α : Type} {f : Nat → Nat → Nat → α} {c a j K b : Nat} {x : α} (h : b ≠ a) : u3 f c a j x K b = f K b := by
  funext j'
  exact if_neg (fun z => h z.2.1)
theorem u3_j {α : Type} {f : Nat → Nat → Nat → α} {c a j K b i : Nat} {x : α} (h : i ≠ j) : u3 f c a j x K b i = f K b i := if_neg (fun z => h z.2.2)
theorem u1_s {f : Nat → Nat} {a x : Nat} : u1 f a x a = x := if_pos rfl
theorem u1_n {f : Nat → Nat} {a x b : Nat} (h : b ≠ a) : u1 f a x b = f b := if_neg h
theorem FixK.new {kd : Nat → Nat} {n K : Nat} (h : FixK kd) (hn : 60 ≤ n) : FixK (u1 kd n K) := by
  intro q hq
  have h1 : ∀ q ∈ fkL, q.1 < 60 := by decide
  rw [u1_n (by have := h1 q hq; omega)]
  exact h q hq
theorem FixR.put {rv : Nat → Nat → Nat → Nat} {K a j v : Nat} (h : FixR rv) (hK : (K, a) ∉ frL.map (fun q => (q.1, q.2.1)) ∨ (K = 8 ∧ j = 3)) : FixR (u3 rv K a j v) := by
  intro q hq
  have h1 : ∀ q ∈ frL, q.1 = 8 → q.2.2.1 ≠ 3 := by decide
  unfold u3
  rw [if_neg]
  · exact h q hq
  · rintro ⟨e1, e2, e3⟩
    rcases hK with hK | ⟨hK, hj⟩
    · exact hK (List.mem_map.mpr ⟨q, hq, by rw [e1, e2]⟩)
    · exact h1 q hq (e1.trans hK) (e3.trans hj)
/-! the invariant: what the class's objects hold, by the reference's rows -/
abbrev Fn : Type := Nat → Int32
def cnt1 (oo : Fn) (i : Nat) : Fn := fun c => if oo c = nI i then 1 else 0
def cnt2 (oo st : Fn) (i : Nat) : Fn := fun c => if oo c = nI i then (if st c = 2 then 1 else 0) else 0
def cnt3 (oo bb : Fn) (i : Nat) : Fn := fun c => if oo c = nI i then bb c else 0
def CSub (S C : Nat) (kd sa : Nat → Nat) (f : Nat → Fn) (coins vot oo st bb : Fn) : Prop :=
  S ≤ 20 ∧ (∀ i, i < S → kd (sa i) = 9) ∧ (∀ i j, i < S → j < S → sa i = sa j → i = j) ∧
  (∀ i, i < S → f (sa i) 0 = coins i ∧ f (sa i) 4 = vot i ∧ f (sa i) 1 = bx_sum (cnt1 oo i) C ∧ f (sa i) 2 = bx_sum (cnt2 oo st i) C ∧ f (sa i) 3 = bx_sum (cnt3 oo bb i) C) ∧
  (∀ i, S ≤ i → coins i = 0 ∧ vot i = 0) ∧ (∀ i, vot i = 0 ∨ vot i = 1) ∧ (∀ i, i < S → ∃ c : Nat, coins i = nI c ∧ c / 10 ≤ C)
def CCard (S C Hn : Nat) (kd ca : Nat → Nat) (f : Nat → Fn) (st oo to us bb db : Fn) : Prop :=
  C ≤ 400 ∧ (∀ i, i < C → kd (ca i) = 2) ∧ (∀ i j, i < C → j < C → ca i = ca j → i = j) ∧
  (∀ i, i < C → f (ca i) 0 = oo i ∧ f (ca i) 1 = st i ∧ f (ca i) 2 = to i ∧ f (ca i) 3 = us i ∧ f (ca i) 4 = bb i ∧ f (ca i) 5 = db i) ∧
  (∀ i, i < C → (∃ g : Nat, g < S ∧ oo i = nI g) ∧ (st i = 0 ∨ st i = 1 ∨ st i = 2 ∨ st i = 3) ∧ (st i = 1 → ∃ k : Nat, k < Hn ∧ to i = nI k) ∧ (st i ≠ 2 → bb i = 0)) ∧
  (∀ i, C ≤ i → st i = 0 ∧ bb i = 0 ∧ db i = 0)
def CHouse (Hn : Nat) (kd ha : Nat → Nat) (f : Nat → Fn) (wd pl fo ne lo go at_ fe : Fn) : Prop :=
  Hn ≤ 30 ∧ (∀ i, i < Hn → kd (ha i) = 4) ∧ (∀ i j, i < Hn → j < Hn → ha i = ha j → i = j) ∧
  (∀ i, i < Hn → f (ha i) 0 = wd i ∧ f (ha i) 1 = pl i ∧ f (ha i) 2 = fo i / 10 ∧ f (ha i) 3 = rmd (fo i) 10 ∧ f (ha i) 4 = ne i ∧ f (ha i) 5 = lo i ∧ f (ha i) 6 = go i ∧ f (ha i) 7 = at_ i ∧ f (ha i) 8 = fe i) ∧
  (∀ i, i < Hn → (∃ w : Nat, w < 6 ∧ wd i = nI w) ∧ (∃ p : Nat, p < 100 ∧ pl i = nI p) ∧ (ne i = -1 ↔ lo i = -1)) ∧
  (∀ i, Hn ≤ i → go i = 0 ∧ at_ i = 0)
def RuleIs (f : Nat → Fn) (a : Nat) (wk what : Int32) : Prop := f a 0 = wk ∧ f a 1 = what / 100000 ∧ f a 2 = rmd (what / 10000) 10 ∧ f a 3 = rmd (what / 1000) 10 ∧ f a 4 = rmd what 1000
def CRule (P : Nat) (kd ra : Nat → Nat) (pr : Nat) (f : Nat → Fn) (rw_ ru : Fn) (op ow ou : Int32) : Prop :=
  P ≤ 40 ∧ (∀ i, i < P → kd (ra i) = 7 ∧ RuleIs f (ra i) (rw_ i) (ru i) ∧ 0 ≤ rw_ i) ∧ RuleIs f 10 0 110010 ∧
  ((op = 0 ∧ pr = 0) ∨ (op = 1 ∧ kd pr = 7 ∧ RuleIs f pr ow ou ∧ 0 ≤ ow ∧ P < 40))
def CKit (f : Nat → Fn) (gr bo le ea : Fn) : Prop := ∀ w, w < 6 → f (23 + w) 0 = gr w ∧ f (23 + w) 1 = bo w ∧ f (23 + w) 2 = le w ∧ f (23 + w) 3 = ea w
def CVis (V : Nat) (kd va : Nat → Nat) (f : Nat → Fn) (vw vp vm : Fn) : Prop :=
  V ≤ 4 ∧ ∀ i, i < V → kd (va i) = 10 ∧ f (va i) 0 = vw i ∧ f (va i) 1 = vp i ∧ f (va i) 2 = vm i ∧ (∃ w : Nat, w < 6 ∧ vw i = nI w) ∧ (∃ p : Nat, p < 100 ∧ vp i = nI p) ∧ (∃ k : Nat, 1 ≤ k ∧ k ≤ 8 ∧ vm i = nI k)
/-- the likeness of two rows of marks, k marks to go, al alike so far -/
def cmpC : Nat → Int32 → Int32 → Int32 → Int32
  | 0, _, _, al => if 3 ≤ al then 1 else if al ≤ 0 then 0 else 2
  | k + 1, x, y, al => if rmd x 10 = 9 then cmpC k (x / 10) (y / 10) al else if rmd y 10 = 9 then cmpC k (x / 10) (y / 10) al else if rmd x 10 = rmd y 10 then cmpC k (x / 10) (y / 10) (al + 1) else 0
def smE (ec em : Fn) (a b : Nat) : Prop := ec a ≠ ec b ∧ cmpC 5 (em a) (em b) 0 = 1
/-- joined through others -/
def Rch (E : Nat) (ec em : Fn) (i j : Nat) : Prop := ∀ g : Nat → Nat, (∀ a b, a < E → b < E → smE ec em a b → g a = g b) → g i = g j
def CBook (E : Nat) (kd ea : Nat → Nat) (f : Nat → Fn) (ec em : Fn) (lst : Nat → Nat) : Prop :=
  E ≤ 60 ∧ (∀ i, i < E → kd (ea i) = 3) ∧ (∀ i j, i < E → j < E → ea i = ea j → i = j) ∧
  (∀ i, i < E → f (ea i) 0 = ec i ∧ f (ea i) 1 = em i ∧ f (ea i) 2 = nI (lst i)) ∧
  (∀ i, i < E → lst i ≤ i ∧ Rch E ec em i (lst i)) ∧ (∀ a b, a < E → b < E → smE ec em a b → lst a = lst b)
def Scal (iv : Nat → Nat → Nat → Int32) (S C Hn V E P T : Nat) : Prop :=
  iv 11 2 9 = nI S ∧ iv 12 29 1 = nI S ∧ iv 11 2 10 = nI Hn ∧ iv 12 29 11 = nI Hn ∧ iv 11 2 11 = nI C ∧ iv 12 29 4 = nI C ∧ iv 11 2 12 = nI V ∧ iv 12 29 33 = nI V ∧ iv 11 2 13 = nI T ∧ iv 12 29 0 = nI T ∧ T ≤ 1040 ∧ iv 11 2 14 = iv 12 29 32 ∧ iv 8 8 2 = nI P ∧ iv 12 29 20 = nI P ∧ iv 8 8 4 = iv 12 29 26 ∧ iv 8 8 5 = iv 12 29 27 ∧ iv 1 20 1 = nI E ∧ iv 12 29 37 = nI E
def Inv (L : Nat) (xs : Fn) (n : Nat) (kd ln : Nat → Nat) (iv : Nat → Nat → Nat → Int32) (rv : Nat → Nat → Nat → Nat) (S C Hn V E P T : Nat) (lst : Nat → Nat) : Prop :=
  (FixK kd ∧ FixL ln ∧ FixR rv ∧ 60 ≤ n ∧ (∀ a, kd a ≠ 0 → a < n) ∧ ln 1 = L ∧ iv 19 1 = xs) ∧ Scal iv S C Hn V E P T ∧
  CSub S C kd (rv 39 3) (iv 9) (iv 20 30) (iv 21 31) (iv 20 33) (iv 20 32) (iv 20 36) ∧
  CCard S C Hn kd (rv 32 5) (iv 2) (iv 20 32) (iv 20 33) (iv 20 34) (iv 20 35) (iv 20 36) (iv 20 37) ∧
  CHouse Hn kd (rv 34 4) (iv 4) (iv 20 38) (iv 20 39) (iv 20 40) (iv 20 41) (iv 20 42) (iv 20 43) (iv 20 44) (iv 20 45) ∧
  CRule P kd (rv 37 9) (rv 8 8 3) (iv 7) (iv 20 46) (iv 20 47) (iv 12 29 23) (iv 12 29 24) (iv 12 29 25) ∧
  CKit (iv 5) (iv 20 48) (iv 20 49) (iv 20 50) (iv 20 51) ∧ CVis V kd (rv 40 6) (iv 10) (iv 20 52) (iv 20 53) (iv 20 54) ∧
  CBook E kd (rv 33 21) (iv 3) (iv 20 55) (iv 20 56) lst
def InvH (L : Nat) (xs : Fn) : AH → Prop := fun h => ∃ (S C Hn V E P T : Nat) (lst : Nat → Nat), Inv L xs h.1.1 h.1.2.1 h.1.2.2 h.2.1 h.2.2 S C Hn V E P T lst
/-- one call on both sides: the same int, and the invariant again -/
def Both (D xm mm : Nat) (as : List AV) (L : Nat) (xs : Fn) (h : AH) : Prop := MW D xm (.inr 2 :: as) h (fun v h1 => ∃ z, v = some (.inl z) ∧ MW D mm (.inr 29 :: as) h1 (fun v' h2 => v' = some (.inl z) ∧ InvH L xs h2))
theorem both_e {z : Int32} {p : Int32 → Prop} : (∃ z', (some (Sum.inl z) : Option AV) = some (.inl z') ∧ p z') = p z := by
  apply propext
  constructor
  · rintro ⟨z', h, hp⟩
    cases h
    exact hp
  · exact fun h => ⟨z, rfl, h⟩
theorem some_e {z z' : Int32} : ((some (Sum.inl z) : Option AV) = some (.inl z')) = (z = z') := by simp
