/-! WHAT AN ABSTRACT HEAP IS ON THE MACHINE: places from 2 on are the cells from B on; place 1 is the script's cell b -/
abbrev Cx : Type := va_G × (Nat → ClassId) × Nat × Nat × Cell
def tr (x : Cx) (k : Nat) : Nat := if k = 1 then x.2.2.1 else x.2.2.2.1 + (k - 2)
def tv (x : Cx) (v : AV) : Value := match v with
  | .inl i => .int i
  | .inr k => if k = 0 then .null else .ref (tr x k)
theorem tv_cat (x : Cx) (v : AV) : (tv x v).category = 1 := by
  cases v with
  | inl i => rfl
  | inr k => unfold tv; dsimp only; split <;> rfl
theorem tv_sum (x : Cx) (st : List AV) : ((st.map (tv x)).map fun v => v.category).sum = st.length := by
  induction st with
  | nil => rfl
  | cons a r ih => rw [List.map_cons, List.map_cons, List.sum_cons, tv_cat, ih, List.length_cons]; omega
def cellAt (x : Cx) (h : AH) (k : Nat) (H : Heap) : Prop :=
  (h.1.2.1 k ≤ 12 → t_OB (tr x k) (x.1.1 (h.1.2.1 k - 1)) (kF (h.1.2.1 k)) (x.1.2 (h.1.2.1 k - 1)) H (fun j => tv x (fvl h (h.1.2.1 k) k j))) ∧
  (h.1.2.1 k = 20 ∨ h.1.2.1 k = 21 → H[tr x k]? = some (arrV (x.2.1 (h.1.2.1 k)) (h.1.2.2 k) (fun j => .int (h.2.1 (h.1.2.1 k) k j)))) ∧
  (30 < h.1.2.1 k → H[tr x k]? = some (arrV (x.2.1 (h.1.2.1 k)) (h.1.2.2 k) (fun j => tv x (.inr (h.2.2 (h.1.2.1 k) k j)))))
def Rel (x : Cx) (h : AH) (H : Heap) : Prop :=
  H.size = x.2.2.2.1 + (h.1.1 - 2) ∧ 2 ≤ h.1.1 ∧ x.2.2.1 < x.2.2.2.1 ∧ h.1.2.1 1 = 19 ∧ (∀ k, h.1.2.1 k ≠ 0 → k = 1 ∨ (2 ≤ k ∧ k < h.1.1 ∧ h.1.2.1 k ≠ 19)) ∧
  (H[x.2.2.1]? = some x.2.2.2.2 ∧ x.2.2.2.2.slots.size = h.1.2.2 1 ∧ ∀ j, j < h.1.2.2 1 → x.2.2.2.2.slots[j]? = some (.int (h.2.1 19 1 j))) ∧
  (∀ k, 2 ≤ k → k < h.1.1 → cellAt x h k H) ∧ (∀ K a j, h.1.1 ≤ a → h.2.1 K a j = 0 ∧ h.2.2 K a j = 0)
theorem tr_ge {x : Cx} {k : Nat} (h : 2 ≤ k) : tr x k = x.2.2.2.1 + (k - 2) := if_neg (by omega)
theorem tr_one {x : Cx} : tr x 1 = x.2.2.1 := if_pos rfl
theorem Rel.at {x : Cx} {h : AH} {H : Heap} (r : Rel x h H) {a c : Nat} (ha : h.1.2.1 a = c) (h0 : c ≠ 0) (h19 : c ≠ 19) : 2 ≤ a ∧ a < h.1.1 ∧ cellAt x h a H := by
  rcases r.2.2.2.2.1 a (by rw [ha]; exact h0) with e | ⟨e1, e2, -⟩
  · subst e
    exact absurd (ha.symm.trans r.2.2.2.1) h19
  · exact ⟨e1, e2, r.2.2.2.2.2.2.1 a e1 e2⟩
theorem Rel.ob {x : Cx} {h : AH} {H : Heap} (r : Rel x h H) {a c : Nat} (ha : h.1.2.1 a = c) (h0 : 0 < c) (h12 : c ≤ 12) : 2 ≤ a ∧ a < h.1.1 ∧ t_OB (tr x a) (x.1.1 (c - 1)) (kF c) (x.1.2 (c - 1)) H (fun j => tv x (fvl h c a j)) := by
  obtain ⟨e1, e2, e3⟩ := r.at ha (by omega) (by omega)
  have e4 := e3.1 (by rw [ha]; exact h12)
  rw [ha] at e4
  exact ⟨e1, e2, e4⟩
theorem Rel.ai {x : Cx} {h : AH} {H : Heap} (r : Rel x h H) {a c : Nat} (ha : h.1.2.1 a = c) (hc : c = 20 ∨ c = 21) : 2 ≤ a ∧ a < h.1.1 ∧ H[tr x a]? = some (arrV (x.2.1 c) (h.1.2.2 a) (fun j => .int (h.2.1 c a j))) := by
  obtain ⟨e1, e2, e3⟩ := r.at ha (by omega) (by omega)
  have e4 := e3.2.1 (by rw [ha]; exact hc)
  rw [ha] at e4
  exact ⟨e1, e2, e4⟩
theorem Rel.ar {x : Cx} {h : AH} {H : Heap} (r : Rel x h H) {a c : Nat} (ha : h.1.2.1 a = c) (hc : 30 < c) : 2 ≤ a ∧ a < h.1.1 ∧ H[tr x a]? = some (arrV (x.2.1 c) (h.1.2.2 a) (fun j => tv x (.inr (h.2.2 c a j)))) := by
  obtain ⟨e1, e2, e3⟩ := r.at ha (by omega) (by omega)
  have e4 := e3.2.2 (by rw [ha]; exact hc)
  rw [ha] at e4
  exact ⟨e1, e2, e4⟩
theorem cellAt.kept {x : Cx} {h h' : AH} {k : Nat} {H H' : Heap} (q : cellAt x h k H) (hH : H'[tr x k]? = H[tr x k]?) (hk : h'.1.2.1 k = h.1.2.1 k) (hl : h'.1.2.2 k = h.1.2.2 k) (hi : ∀ K j, h'.2.1 K k j = h.2.1 K k j) (hr : ∀ K j, h'.2.2 K k j = h.2.2 K k j) : cellAt x h' k H' := by
  have hf : ∀ K j, fvl h' K k j = fvl h K k j := fun K j => by unfold fvl; rw [hi, hr]
  unfold cellAt
  rw [hk, hl]
  refine ⟨fun z => ?_, fun z => ?_, fun z => ?_⟩
  · exact ((q.1 z).kept hH).to (fun j _ => by rw [hf])
  · rw [hH, q.2.1 z]
    simp only [hi]
  · rw [hH, q.2.2 z]
    simp only [hr]
/-- one old cell is written -/
theorem Rel.upd {x : Cx} {h h' : AH} {H H' : Heap} {a : Nat} (r : Rel x h H) (ha : 2 ≤ a) (ha2 : a < h.1.1) (hz : H'.size = H.size) (ho : ∀ q, q ≠ tr x a → H'[q]? = H[q]?) (h1 : h'.1 = h.1) (hv : ∀ K k j, k ≠ a → h'.2.1 K k j = h.2.1 K k j ∧ h'.2.2 K k j = h.2.2 K k j) (hc : cellAt x h' a H') : Rel x h' H' := by
  obtain ⟨r1, r2, r3, r4, r5, ⟨s1, s2, s3⟩, r6, r7⟩ := r
  have hta := tr_ge (x := x) ha
  refine ⟨by rw [hz, h1]; exact r1, by rw [h1]; exact r2, r3, by rw [h1]; exact r4, by rw [h1]; exact r5, ⟨?_, by rw [h1]; exact s2, fun j hj => ?_⟩, fun k k1 k2 => ?_, fun K k j hk => ?_⟩
  · rw [ho _ (by rw [hta]; omega)]; exact s1
  · rw [(hv 19 1 j (by omega)).1]
    rw [h1] at hj
    exact s3 j hj
  · by_cases e : k = a
    · subst e; exact hc
    · rw [h1] at k2
      refine (r6 k k1 k2).kept (ho _ ?_) (by rw [h1]) (by rw [h1]) (fun K j => (hv K k j e).1) (fun K j => (hv K k j e).2)
      rw [hta, tr_ge k1]
      omega
  · rw [h1] at hk
    rw [(hv K k j (by omega)).1, (hv K k j (by omega)).2]
    exact r7 K k j hk
/-- one cell comes -/
theorem Rel.new {x : Cx} {h h' : AH} {H H' : Heap} {c n : Nat} (r : Rel x h H) (hc0 : c ≠ 0) (hc19 : c ≠ 19) (hz : H'.size = H.size + 1) (ho : ∀ q, q < H.size → H'[q]? = H[q]?) (h1 : h' = ((h.1.1 + 1, u1 h.1.2.1 h.1.1 c, u1 h.1.2.2 h.1.1 n), h.2)) (hc : cellAt x h' h.1.1 H') : Rel x h' H' ∧ tr x h.1.1 = H.size := by
  obtain ⟨r1, r2, r3, r4, r5, ⟨s1, s2, s3⟩, r6, r7⟩ := r
  subst h1
  have ht : tr x h.1.1 = H.size := by rw [tr_ge r2, r1]
  have hu1 : ∀ (f : Nat → Nat) (k v : Nat), k ≠ h.1.1 → u1 f h.1.1 v k = f k := fun f k v hk => if_neg hk
  refine ⟨⟨?_, ?_, r3, ?_, fun k hk => ?_, ⟨?_, ?_, fun j hj => ?_⟩, fun k k1 k2 => ?_, fun K a j ha => ?_⟩, ht⟩
  · show H'.size = x.2.2.2.1 + (h.1.1 + 1 - 2)
    omega
  · show 2 ≤ h.1.1 + 1
    omega
  · show u1 h.1.2.1 h.1.1 c 1 = 19
    rw [hu1 _ _ _ (by omega)]; exact r4
  · show k = 1 ∨ (2 ≤ k ∧ k < h.1.1 + 1 ∧ u1 h.1.2.1 h.1.1 c k ≠ 19)
    by_cases e : k = h.1.1
    · rw [e]
      exact Or.inr ⟨r2, by omega, by unfold u1; rw [if_pos rfl]; exact hc19⟩
    · have hk : u1 h.1.2.1 h.1.1 c k ≠ 0 := hk
      rw [hu1 _ _ _ e] at hk ⊢
      rcases r5 k hk with q | ⟨q1, q2, q3⟩
      · exact Or.inl q
      · exact Or.inr ⟨q1, by omega, q3⟩
  · rw [ho _ (by omega)]; exact s1
  · show x.2.2.2.2.slots.size = u1 h.1.2.2 h.1.1 n 1
    rw [hu1 _ _ _ (by omega)]; exact s2
  · have hj : j < u1 h.1.2.2 h.1.1 n 1 := hj
    rw [hu1 _ _ _ (by omega)] at hj
    exact s3 j hj
  · have k2 : k < h.1.1 + 1 := k2
    by_cases e : k = h.1.1
    · rw [e]; exact hc
    · refine (r6 k k1 (by omega)).kept (ho _ ?_) (hu1 _ _ _ e) (hu1 _ _ _ e) (fun _ _ => rfl) (fun _ _ => rfl)
      rw [tr_ge k1]; omega
  · have ha : h.1.1 + 1 ≤ a := ha
    exact r7 K a j (by omega)
theorem tr_eq {x : Cx} {h : AH} {H : Heap} (r : Rel x h H) : tr x h.1.1 = H.size := by rw [tr_ge r.2.1, r.1]
/-- the tables' own words that ride with a heap -/
def tyL (x : Cx) : List (ClassId × FieldType) := [(x.2.1 20, .int), (x.2.1 21, .boolean)] ++ aoL.map (fun k => (x.2.1 (30 + k), .object (kN k)))
def neL : List Cond := nlT.map (fun t => .methodLinkNest (kN t.1) t.2.1 (mY t.2.2) "SoupTickets")
def KK (x : Cx) (U : State) : Prop := va_K x.1 vwCl (tyL x) U ∧ (∀ k ∈ aoL, va_AO (kN k) U) ∧ (∀ t ∈ nlT, va_Nw (.methodLinkNest (kN t.1) t.2.1 (mY t.2.2) "SoupTickets") U) ∧ U.isArrayOf x.2.2.2.2 .int ∧ x.2.2.2.2.vm ≠ .unknown
theorem KK.moved {x : Cx} {s U : State} (hW : s.WarmedH U.vm) (h : KK x s) : KK x U := ⟨va_K.moved hW.alike h.1, fun k hk => (h.2.1 k hk).moved hW.alike, fun t ht => va_Nw.warmM hW (h.2.2.1 t ht), State.isArrayOf_alike hW.alike h.2.2.2.1, h.2.2.2.2⟩
theorem KK.same {x : Cx} {s U : State} (hW : s.vm = U.vm) (h : KK x s) : KK x U := ⟨va_K.moved (by rw [hW]; exact Vm.Alike.refl _) h.1, fun k hk => (h.2.1 k hk).moved (by rw [hW]; exact Vm.Alike.refl _), fun t ht => va_Nw.same rfl hW (h.2.2.1 t ht), State.isArrayOf_alike (by rw [hW]; exact Vm.Alike.refl _) h.2.2.2.1, h.2.2.2.2⟩
/-- locals -/
def lvL (x : Cx) : Nat → List LV → List (Nat × Value)
  | _, [] => []
  | i, none :: r => lvL x (i + 1) r
  | i, some v :: r => (i, tv x v) :: lvL x (i + 1) r
theorem lvL_mem (x : Cx) : ∀ (ls : List LV) (i j : Nat) (w : Value), (j, w) ∈ lvL x i ls ↔ ∃ v, i ≤ j ∧ ls[j - i]? = some (some v) ∧ w = tv x v
  | [], i, j, w => by simp [lvL]
  | none :: r, i, j, w => by
    rw [lvL, lvL_mem x r (i + 1) j w]
    constructor
    · rintro ⟨v, h1, h2, h3⟩
      refine ⟨v, by omega, ?_, h3⟩
      rw [show j - i = (j - (i + 1)) + 1 by omega]; exact h2
    · rintro ⟨v, h1, h2, h3⟩
      by_cases e : j = i
      · subst e; simp at h2
      · refine ⟨v, by omega, ?_, h3⟩
        rw [show j - i = (j - (i + 1)) + 1 by omega] at h2; exact h2
  | some u :: r, i, j, w => by
    rw [lvL, List.mem_cons, lvL_mem x r (i + 1) j w]
    constructor
    · rintro (h | ⟨v, h1, h2, h3⟩)
      · cases h
        exact ⟨u, Nat.le_refl _, by simp, rfl⟩
      · refine ⟨v, by omega, ?_, h3⟩
        rw [show j - i = (j - (i + 1)) + 1 by omega]; exact h2
    · rintro ⟨v, h1, h2, h3⟩
      by_cases e : j = i
      · subst e
        simp at h2
        subst h2
        exact Or.inl (by rw [h3])
      · refine Or.inr ⟨v, by omega, ?_, h3⟩
        rw [show j - i = (j - (i + 1)) + 1 by omega] at h2; exact h2
def LR (x : Cx) (ls : List LV) (la : Array Slot) (nL : Nat) : Prop := ls.length = nL ∧ lv_has la nL (lvL x 0 ls)
theorem LR.get {x : Cx} {ls : List LV} {la : Array Slot} {nL : Nat} (h : LR x ls la nL) {i : Nat} {v : AV} (hi : ls[i]? = some (some v)) : la[i]? = some (.val (tv x v)) := h.2.2.2 (i, tv x v) ((lvL_mem x ls 0 i _).mpr ⟨v, Nat.zero_le _, by simpa using hi, rfl⟩)
theorem LR.set {x : Cx} {ls : List LV} {la la' : Array Slot} {nL : Nat} (h : LR x ls la nL) {i : Nat} {v : AV} (hn : i < nL) (h' : lv_has la' nL ((i, tv x v) :: (lvL x 0 ls).filter (fun q => !(q.1 == i) && !(q.1 + 1 == i && q.2.category == 2)))) : LR x (ls.set i (some v)) la' nL := by
  refine ⟨by rw [List.length_set]; exact h.1, h'.1, h'.2.1, fun q hq => ?_⟩
  obtain ⟨j, w⟩ := q
  obtain ⟨u, -, h2, h3⟩ := (lvL_mem x _ 0 j w).mp hq
  rw [Nat.sub_zero] at h2
  by_cases e : j = i
  · subst e
    rw [List.getElem?_set_self (by rw [h.1]; exact hn)] at h2
    cases h2
    rw [h3]
    exact h'.2.2 (j, tv x v) List.mem_cons_self
  · rw [List.getElem?_set_ne (Ne.symm e)] at h2
    refine h'.2.2 (j, w) (List.mem_cons_of_mem _ (List.mem_filter.mpr ⟨(lvL_mem x ls 0 j w).mpr ⟨u, Nat.zero_le _, by simpa using h2, h3⟩, ?_⟩))
    have hc := tv_cat x u
    rw [← h3] at hc
    simp [e, hc]
theorem LR.entry (x : Cx) (vs : List AV) {n : Nat} (hn : vs.length ≤ n) : LR x (vs.map some ++ List.replicate (n - vs.length) none) ((lg_sl (vs.map (tv x)) ++ List.replicate (n - (lg_sl (vs.map (tv x))).length) Slot.unset).toArray) n := by
  have hs : ∀ ws : List AV, lg_sl (ws.map (tv x)) = (ws.map (tv x)).map Slot.val := by
    intro ws
    induction ws with
    | nil => rfl
    | cons a r ih =>
      have e : lg_sl ((a :: r).map (tv x)) = (if (tv x a).category = 2 then [.val (tv x a), .second] else [.val (tv x a)]) ++ lg_sl (r.map (tv x)) := rfl
      rw [e, if_neg (by rw [tv_cat]; decide), ih]
      rfl
  have hl : (lg_sl (vs.map (tv x))).length ≤ n := by rw [hs]; simpa using hn
  have h := lv_entry (vs.map (tv x)) hl
  refine ⟨by simp; omega, h.1, h.2.1, fun q hq => ?_⟩
  obtain ⟨j, w⟩ := q
  obtain ⟨u, -, h2, h3⟩ := (lvL_mem x _ 0 j w).mp hq
  rw [Nat.sub_zero] at h2
  have hj : j < vs.length := by
    rcases Nat.lt_or_ge j vs.length with q | q
    · exact q
    · rw [List.getElem?_append_right (by simpa using q)] at h2
      rw [List.getElem?_replicate] at h2
      split at h2 <;> simp at h2
  rw [List.getElem?_append_left (by simpa using hj)] at h2
  rw [h3, hs]
  simp only [List.getElem?_map, Option.map_eq_some_iff] at h2
  obtain ⟨u', h4, h5⟩ := h2
  cases h5
  simp only [List.getElem?_toArray]
  rw [List.getElem?_append_left (by simpa using hj)]
  simp [h4]
