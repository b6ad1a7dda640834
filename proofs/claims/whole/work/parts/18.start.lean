/-! THE LAW'S START on the abstract machine -/
def R_law : String := "SoupTicketsLaw"
def lw_P (b : Addr) (xs : List Int32) (args : Array Value) (s : State) : Prop := args = #[.ref b] ∧ s.IntsAt b xs ∧ xs.length ≤ 2048 ∧ (Jvm.Cond.and given_1 narrow_1).before args s = true
def lw_Q (_ : Array Value) (s : State) (o : Outcome) (t : State) : Prop := o = .returned (some (.int 1)) ∧ Framed s o t [] 671418 7087994
def lw_Z (below : List Frame) (a : Array Value) (s : State) : State → Prop := fun t => ∃ o, t.status = .running ∧ Ended t below o ∧ lw_Q a s o t
theorem lw_ret {p : Program} {l : Launch} {e : Env} {s : State} {m : MethodId} {below : List Frame} {meth : Method} {c : Code} {b : Nat} (hx : p.tables.exec = Jvm.exec) (hb : c.code = code) (hr : meth.sig.returnType = ret) (hlocks : meth.locks = false) {pc : Nat} {H : Heap} {ls : Array Slot} (hdg : decode code pc = .ok (.ireturn, 1)) : W p l e room_1 s m #[Value.ref b] below meth c H [] 671418 7087994 (lw_Z below #[Value.ref b] s) (F0 m pc ls [.int 1]) := by
  intro T hT X
  obtain ⟨fs, hret, hrun, hended, hW, hframe⟩ := X.leave (v := some (.int 1)) (hlocks := hlocks) (fun h => by rw [hr] at h; cases h)
  have hmeth' : T.vm.method? m = some meth := X.method'
  refine ⟨T.setFrames fs, ?_, .returned (some (.int 1)), hrun, hended, rfl, ⟨_, rfl⟩, hW, hframe⟩
  jvm_step X.here [X.here.top, hx, hb, hdg, hmeth', hr, ret, narrow_b1]
  (try refine ⟨rfl, ?_⟩); (try refine ⟨rfl, ?_⟩)
  first | (intro acts; rw [hret _ acts rfl rfl rfl]) | rw [hret _ _ rfl rfl rfl]
  exact Steps.refl _
def lw_At (p : Program) (s : State) (m : MethodId) (meth : Method) (c : Code) (b L : Nat) (xs : Nat → Int32) : Prop :=
  p.tables.exec = Jvm.exec ∧ c.code = code ∧ meth.sig.returnType = ret ∧ c.maxLocals = 4 ∧ s.vm.findClass R_law = some m.cls ∧ (∀ w ∈ lw_tbl, w.before #[Value.ref b] s = true) ∧ va_X b L xs s s.heap ∧ b < s.heap.size ∧ meth.locks = false ∧ (Jvm.Cond.and given_1 narrow_1).before #[Value.ref b] s = true
/-- the heap at the start: the script alone -/
def h00 (L : Nat) (xs : Nat → Int32) : AH := ((2, fun k => if k = 1 then 19 else 0, fun k => if k = 1 then L else 0), fun c a j => if c = 19 ∧ a = 1 then xs j else 0, fun _ _ _ => 0)
/-- what is to be shown of the abstract machine -/
def LawOk (D : Nat) : Prop := ∀ (L : Nat) (xs : Nat → Int32), L ≤ 2048 → WP D 119 (fun v _ => v = some (.inl 1)) 0 [some (.inr 1), none, none, none] [] (h00 L xs) 671418 7087994
theorem ao_in : ∀ k ∈ aoL, Cond.arrayOver (.object (kN k)) ∈ lw_tbl := by decide +kernel
theorem ne_in : ∀ t ∈ nlT, Cond.methodLinkNest (kN t.1) t.2.1 (mY t.2.2) "SoupTickets" ∈ lw_tbl := by decide +kernel
theorem start_of (D : Nat) (hD : D < 1000) (hok : LawOk D) {p : Program} {e : Env} {s : State} {m : MethodId} {below : List Frame} {meth : Method} {c : Code} (l : Launch) {b L : Nat} {xs : Nat → Int32} (hL : L ≤ 2048) (C0 : lw_At p s m meth c b L xs) : W p l e room_1 s m #[Value.ref b] below meth c s.heap [] 0 0 (lw_Z below #[Value.ref b] s) (entryFrame m ([Value.ref b] : List Value).toArray 4) := by
  obtain ⟨hx, hb, hr, hml, hown, hts, ⟨scr, x1, x2, x3, x4, x5⟩, hbl, hlocks, hgv⟩ := id C0
  have hts' : ∀ w ∈ lw_good, w.before #[Value.ref b] s = true := fun w h => hts w (lw_good_in w h)
  have hsys := sys_ok
  simp only [Bool.and_eq_true] at hsys
  obtain ⟨DD, hDD⟩ : ∃ DD : va_G, ∀ k, k < 12 → u_Kn s (kN (k + 1)) (kT (k + 1)) (kF (k + 1)) (DD.1 k) (DD.2 k) := by
    have h : ∀ k, ∃ (q : ClassId × (Nat → Nat)), k < 12 → u_Kn s (kN (k + 1)) (kT (k + 1)) (kF (k + 1)) q.1 q.2 := by
      intro k
      by_cases hk : k < 12
      · obtain ⟨c0, i0, h0⟩ := u_known (C := kN (k + 1)) (T := kT (k + 1)) (N := kF (k + 1)) (n := kF (k + 1)) hts' (k_in (by omega) (by omega)).2 (hts' _ (k_in (c := k + 1) (by omega) (by omega)).1.1)
        exact ⟨(c0, i0), fun _ => h0⟩
      · exact ⟨(0, fun _ => 0), fun z => absurd z hk⟩
    refine ⟨(fun k => (Classical.choose (h k)).1, fun k => (Classical.choose (h k)).2), fun k h1 => Classical.choose_spec (h k) h1⟩
  have harr : ∀ ty : FieldType, (ty = .int ∨ ty = .boolean) → Cond.arrayClass ty ∈ lw_good → ∃ cA : ClassId, ArrOfT s cA ty ∧ va_RA s cA ty := by
    intro ty hty hw
    obtain ⟨cA, kA, comp, f1, f2, f3⟩ := Cond.arrayClass_spec (hts' _ hw)
    refine ⟨cA, fun n z => ⟨fun k h => (by cases h), kA, f2, comp, f3⟩, ?_⟩
    rcases hty with rfl | rfl <;> exact f1
  obtain ⟨cI, hI⟩ := harr .int (Or.inl rfl) (wIn_of hsys.1.2)
  obtain ⟨cZ, hZ⟩ := harr .boolean (Or.inr rfl) (wIn_of hsys.2)
  have hao : ∀ k ∈ aoL, ∃ cA : ClassId, ArrOfT s cA (.object (kN k)) ∧ va_RA s cA (.object (kN k)) := by
    intro k hk
    obtain ⟨comp, c', k', h1, h2, h3, h4, h5⟩ := Cond.arrayOver_spec (hts _ (ao_in k hk))
    exact ⟨c', fun n z => ⟨fun k h => (by cases h), k', h3, comp, h4⟩, k', comp, h3, h4, h1, h5⟩
  obtain ⟨ca, h20, h21, h30⟩ : ∃ ca : Nat → ClassId, ca 20 = cI ∧ ca 21 = cZ ∧ ∀ k ∈ aoL, ArrOfT s (ca (30 + k)) (.object (kN k)) ∧ va_RA s (ca (30 + k)) (.object (kN k)) := by
    have h : ∀ k, ∃ q : ClassId, k ∈ aoL → ArrOfT s q (.object (kN k)) ∧ va_RA s q (.object (kN k)) := by
      intro k
      by_cases hk : k ∈ aoL
      · obtain ⟨q, hq⟩ := hao k hk
        exact ⟨q, fun _ => hq⟩
      · exact ⟨0, fun z => absurd z hk⟩
    refine ⟨fun k => if k = 20 then cI else if k = 21 then cZ else Classical.choose (h (k - 30)), rfl, rfl, fun k hk => ?_⟩
    have hc := Classical.choose_spec (h k) hk
    show ArrOfT s (if 30 + k = 20 then cI else if 30 + k = 21 then cZ else Classical.choose (h (30 + k - 30))) _ ∧ va_RA s (if 30 + k = 20 then cI else if 30 + k = 21 then cZ else Classical.choose (h (30 + k - 30))) _
    rw [if_neg (by omega), if_neg (by omega), show 30 + k - 30 = k by omega]
    exact hc
  let x : Cx := (DD, ca, b, s.heap.size, scr)
  have hK : KK x s := by
    refine ⟨⟨fun c q hq => ?_, fun k q hq => ?_⟩, fun k hk => va_AO.of (hts _ (ao_in k hk)), fun t ht => va_Nw.of rfl (hts _ (ne_in t ht)), x2, x3⟩
    · have hc : c < 12 := (List.getElem?_eq_some_iff.mp hq).1
      have hv := vw_at (c + 1) (by omega) (by omega)
      rw [Nat.add_sub_cancel] at hv
      cases hv.symm.trans hq
      exact hDD c hc
    · have hm := List.mem_of_getElem? hq
      rcases List.mem_append.mp hm with h | h
      · rcases List.mem_cons.mp h with rfl | h
        · show ArrOfT s (ca 20) .int ∧ va_RA s (ca 20) .int
          rw [h20]; exact hI
        · rcases List.mem_cons.mp h with rfl | h
          · show ArrOfT s (ca 21) .boolean ∧ va_RA s (ca 21) .boolean
            rw [h21]; exact hZ
          · cases h
      · obtain ⟨k, hk, rfl⟩ := List.mem_map.mp h
        exact h30 k hk
  have hRel : Rel x (h00 L xs) s.heap := by
    refine ⟨rfl, Nat.le_refl 2, hbl, rfl, fun k hk => ?_, ⟨x1, x4, fun j hj => ?_⟩, fun k k1 k2 => ?_, fun K a j ha => ?_⟩
    · have hk : (if k = 1 then 19 else 0) ≠ 0 := hk
      by_cases e : k = 1
      · exact Or.inl e
      · rw [if_neg e] at hk; exact absurd rfl hk
    · show scr.slots[j]? = some (.int (if 19 = 19 ∧ 1 = 1 then xs j else 0))
      rw [if_pos ⟨rfl, rfl⟩]
      exact x5 j hj
    · have k2 : k < 2 := k2
      omega
    · have ha : 2 ≤ a := ha
      refine ⟨?_, rfl⟩
      show (if K = 19 ∧ a = 1 then xs j else 0) = 0
      rw [if_neg (by omega)]
  have F : Fx x p room_1 s m #[Value.ref b] meth c 119 := ⟨hx, hb, hml, hown, hts', hK, fun h => absurd h (by decide), Nat.le_refl _, by decide, by decide, by decide⟩
  have hR : RetI x p l e room_1 s m #[Value.ref b] below meth c (lw_Z below #[Value.ref b] s) 119 (fun v _ => v = some (.inl 1)) := by
    refine ⟨fun z h H locs cells slots la pc hq hz hr' hS hc hs hd => ?_, fun a h H locs cells slots la pc hq hrr => ?_, fun h H locs cells slots la pc hq => ?_⟩
    · cases hq
      refine va_forget (fun q hq => hS.2.2 q hq) (W.widen (k := 671418) (n := 7087994) hc hs ?_)
      exact lw_ret hx hb hr hlocks hd
    · cases hq
    · cases hq
  have g := hok L xs hL _ (clo F (CeS_of x l D) (by show D + 1 ≤ 2048; omega) (by show 64 * (D + 1) ≤ 84000; omega) hR)
  rw [lg_entry_eq]
  have e1 : tv x (.inr 1) = .ref b := by rw [tv_nz (by decide), tr_one]
  have hl := LR.entry x [.inr 1] (n := 4) (by decide)
  rw [show List.map (tv x) [Sum.inr 1] = [Value.ref b] from by rw [List.map_cons, e1]; rfl] at hl
  exact g s.heap [] 0 0 _ hl hRel va_S.rf (by decide) (by decide)
