/-- a method's contract out of the abstract machine -/
def PcA (x : Cx) (as : List AV) (h : AH) : Array Value → State → Prop := va_Pc (as.map (tv x)) (fun U => Rel x h U.heap ∧ KK x U)
def QcA (x : Cx) (Q : Rt) : Array Value → State → Outcome → State → Prop := fun _ st oc t => (∃ v h', oc = .returned (Option.map (tv x) v) ∧ Q v h' ∧ Rel x h' t.heap) ∧ va_F (fun q => x.2.2.2.1 ≤ q) st t
def wd (m : Nat) : List Cond := .code (mY m) (mC m) (mL m) (mR m) :: lw_good
def rmD (d m : Nat) : Room := { frames := d, cells := (mB m).1, slots := (mB m).2, locals := 64 * d }
theorem PcA_blind (x : Cx) (as : List AV) (h : AH) : FrameBlind (PcA x as h) := fun a U g mk q => ⟨q.1, q.2.1, q.2.2.same rfl⟩
theorem wd_good {m : Nat} (hm : m < 119) : GoodIn lw_good (wd m) := fun w hw => (List.mem_cons.mp hw).elim (fun e => by subst e; exact lw_good_good _ (m_code m hm)) (fun h => lw_good_good w h)
def CeS (x : Cx) (l : Launch) (d : Nat) (CE : Ce) : Prop := ∀ m as h Q, m < 119 → as.length = mA m → CE m as h Q → Met l (mY m) (wd m) (rmD d m) (PcA x as h) (QcA x Q) (mB m).1 (mB m).2 (fun q => x.2.2.2.1 ≤ q)
theorem m_pl {m : Nat} (hm : m < 119) : (mY m).cls = kN (mO m) ∧ plainName (mY m).cls = true ∧ (mY m).cls ≠ "java/lang/invoke/MethodHandle" ∧ (mY m).cls ≠ "java/lang/invoke/VarHandle" ∧ (parseMethodDescriptor (mY m).desc).map (fun d => d.parameters.length) = some (if mSt m then mA m else mA m - 1) ∧ (mSt m = true ∨ 0 < mA m) ∧ ((mY m).name ≠ "<init>" ∨ (mR m = none ∧ mSt m = false)) ∧ mL m ≤ 20 ∧ mA m ≤ mL m := by
  have h := List.all_eq_true.mp m_plain m (List.mem_range.mpr hm)
  unfold mP at h
  simp only [Bool.and_eq_true, Bool.or_eq_true, decide_eq_true_eq, Nat.blt_eq, Nat.ble_eq, Bool.not_eq_true'] at h
  obtain ⟨⟨⟨⟨⟨⟨⟨⟨a1, a2⟩, a3⟩, a4⟩, a5⟩, a6⟩, a7⟩, a8⟩, a9⟩ := h
  exact ⟨a1, a2, a3, a4, a5, a6, a7, a8, a9⟩
section CROWS
variable {x : Cx} {p : Program} {l : Launch} {e : Env} {R : Room} {s : State} {m : MethodId} {args : Array Value} {below : List Frame} {meth : Method} {c : Code} {Qf : State → Prop} {mi pc d : Nat} {ls : List LV} {st : List AV} {h : AH} {bc bs : Nat} {CE : Ce}
/-- behind a call -/
theorem g_after {m' : Nat} {r : List AV} {st0 : List Value} {la : Array Slot} {H : Heap} {locs : List Loc} {cells slots : Nat} {a : Array Value} (hrun : va_Run p l e R s m args below meth c H locs cells slots (mB m').1 (mB m').2 (F0 m pc la st0) (r.map (tv x)) (QcA x (fun v h' => Gx x p l e R s m args below meth c Qf mi (pc + 3) ls (v.toList ++ r) h' (bc - (mB m').1) (bs - (mB m').2)) a) (fun q => x.2.2.2.1 ≤ q))
    (hl : LR x ls la (mL mi)) (hS : va_S (fun q => x.2.2.2.1 ≤ q) s.heap H locs) (hc : cells + bc ≤ R.cells) (hs : slots + bs ≤ R.slots) (h1 : (mB m').1 ≤ bc) (h2 : (mB m').2 ≤ bs) : W p l e R s m args below meth c H locs cells slots Qf (F0 m pc la st0) := by
  intro T hT X
  obtain ⟨v, st₀, t, T', L, h0, X', hL, e1, e2, ⟨⟨v', h', hv, hQ, hR⟩, hz, hk⟩, go⟩ := hrun T hT X
  cases hv
  rw [h0] at hz hk
  obtain ⟨t2, a1, b1⟩ := hQ t.heap (locs ++ L) (cells + (mB m').1) (slots + (mB m').2) la hl hR ⟨Nat.le_trans hS.1 hz, fun q g1 g2 => (hk q (Nat.lt_of_lt_of_le g1 hS.1) g2).trans (hS.2.1 q g1 g2), fun q hq => (List.mem_append.mp hq).elim (hS.2.2 q) (hL q)⟩ (by omega) (by omega) T' e1 X'
  refine ⟨t2, go t2 ?_, b1⟩
  have : (v'.toList ++ r).map (tv x) = (Option.map (tv x) v').toList ++ r.map (tv x) := by cases v' <;> rfl
  rw [this] at a1
  exact a1
theorem g_callB (F : Fx x p R s m args meth c mi) {m' i n : Nat} (hm : m' < 119) (hn : (parseMethodDescriptor (mY m').desc).map (fun d => d.parameters.length) = some n) (hd1 : d + 1 ≤ R.frames) (hd2 : 64 * (d + 1) ≤ R.locals) (hlk : (Cond.methodLink (kN (mO mi)) i (mY m')).before args s = true) : CallB R s args (kN (mO mi)) i (mY m') (mC m') (mL m') (mR m') (wd m') (rmD d m') (mB m').1 (mB m').2 n :=
  callB_of n F.2.2.2.2.1 (wd_good hm) rfl rfl rfl (F.2.2.2.2.1 _ (m_init m' hm)) hlk ⟨(m_pl hm).2.2.1, (m_pl hm).2.2.2.1, hn⟩ ⟨hd1, by have := (m_pl hm).2.2.2.2.2.2.2.1; show 8 + (mL m' + 11) + 64 * d ≤ _; omega⟩
theorem pN_el {k : Nat} {f : List AV → List AV → Prop} (q : pN k st f) : ∃ as r, st = as.reverse ++ r ∧ as.length = k ∧ f as r := by
  refine ⟨_, _, ?_, ?_, q.2⟩
  · rw [List.reverse_reverse, List.take_append_drop]
  · rw [List.length_reverse, List.length_take]
    have := q.1
    omega
theorem g_virtual (F : Fx x p R s m args meth c mi) (hC : CeS x l d CE) (hd1 : d + 1 ≤ R.frames) (hd2 : 64 * (d + 1) ≤ R.locals) {m' i : Nat} (hd : decode (mC mi) pc = .ok (.invokevirtual i, 3)) (hf : mlT.contains (mO mi, i, m') = true) (hst : mSt m' = false) (hni : (mY m').name ≠ "<init>") (q0 : pN (mA m') st fun as r => vh as h (mO m') ∧ cal CE (Gx x p l e R s m args below meth c Qf mi) m' pc as r ls h bc bs) : Gx x p l e R s m args below meth c Qf mi pc ls st h bc bs := by
  obtain ⟨as, r, rfl, hal, hvh, hrl, b1, b2, hce⟩ := pN_el q0
  obtain ⟨hlk, hm⟩ := ml_at hf
  obtain ⟨p1, p2, p3, p4, p5, p6, p7, p8, p9⟩ := m_pl hm
  rw [hst] at p5
  intro H locs cells slots la hl hr hS hc hs
  cases as with
  | nil => exact hvh.elim
  | cons a0 As =>
    cases a0 with
    | inl z => exact hvh.elim
    | inr a =>
      have hk : h.1.2.1 a = mO m' := hvh
      have hO : 0 < mO m' ∧ mO m' ≤ 12 := by
        have : ∀ k, k < 119 → 0 < mO k ∧ mO k ≤ 12 := by decide +kernel
        exact this m' hm
      obtain ⟨a1, a2, cell, q1, q2, q3, q4⟩ := hr.ob hk hO.1 hO.2
      obtain ⟨-, hfc, kC, hkC, hkind⟩ := F.2.2.2.2.2.1.1.1 (mO m' - 1) _ (vw_at (mO m') hO.1 hO.2)
      have hnA : As.length = mA m' - 1 := by rw [List.length_cons] at hal; omega
      have hav : (((Sum.inr a : AV) :: As).reverse ++ r).map (tv x) = (As.map (tv x)).reverse ++ .ref (tr x a) :: r.map (tv x) := by
        simp [tv_nz (show a ≠ 0 by omega)]
      rw [hav]
      have hrun := va_runV (As := As.map (tv x)) (rest := r.map (tv x)) (b := tr x a) (g := F0 m pc la ((As.map (tv x)).reverse ++ .ref (tr x a) :: r.map (tv x))) (H := H) (locs := locs) (cells := cells) (slots := slots) (e := e) (below := below) (meth := meth) ⟨F.1, F.2.1, F.2.2.1, F.2.2.2.1, F.2.2.2.2.1⟩ (hC m' _ h _ hm hal hce) (show CallW R s args (kN (mO mi)) (kN (mO m')) i (mY m') (mC m') (mL m') (mR m') (wd m') (rmD d m') (mB m').1 (mB m').2 (mA m' - 1) from ⟨g_callB F hm p5 hd1 hd2 (F.2.2.2.2.1 _ hlk), F.2.2.2.2.1 _ (m_inst m' hm hst), F.2.2.2.2.1 _ (m_sel m' hm hst hni)⟩) ⟨PcA_blind _ _ _, ⟨cell, q1, by rw [q3]; rfl, by rw [q2]; exact hfc⟩, fun U hU hW => ⟨by rw [List.map_cons, tv_nz (show a ≠ 0 by omega)], by rw [hU]; exact hr, F.2.2.2.2.2.1.moved hW⟩⟩ rfl (by simpa using hnA) hl.2.1 rfl (by show 2 * 0 + _ ≤ 8; rw [tv_sum]; omega) hd ⟨by omega, by omega⟩
      exact g_after hrun hl hS hc hs b1 b2
theorem g_static (F : Fx x p R s m args meth c mi) (hC : CeS x l d CE) (hd1 : d + 1 ≤ R.frames) (hd2 : 64 * (d + 1) ≤ R.locals) {m' i : Nat} (hd : decode (mC mi) pc = .ok (.invokestatic i, 3)) (hf : mlT.contains (mO mi, i, m') = true) (hst : mSt m' = true) (q0 : pN (mA m') st fun as r => cal CE (Gx x p l e R s m args below meth c Qf mi) m' pc as r ls h bc bs) : Gx x p l e R s m args below meth c Qf mi pc ls st h bc bs := by
  obtain ⟨as, r, rfl, hal, hrl, b1, b2, hce⟩ := pN_el q0
  obtain ⟨hlk, hm⟩ := ml_at hf
  obtain ⟨p1, p2, p3, p4, p5, p6, p7, p8, p9⟩ := m_pl hm
  rw [hst] at p5
  intro H locs cells slots la hl hr hS hc hs
  have hav : (as.reverse ++ r).map (tv x) = (as.map (tv x)).reverse ++ r.map (tv x) := by simp
  rw [hav]
  have hrun := va_runS (As := as.map (tv x)) (rest := r.map (tv x)) (g := F0 m pc la ((as.map (tv x)).reverse ++ r.map (tv x))) (H := H) (locs := locs) (cells := cells) (slots := slots) (e := e) (below := below) (meth := meth) ⟨F.1, F.2.1, F.2.2.1, F.2.2.2.1, F.2.2.2.2.1⟩ (hC m' _ h _ hm hal hce) ⟨g_callB F hm p5 hd1 hd2 (F.2.2.2.2.1 _ hlk), F.2.2.2.2.1 _ (m_stat m' hm hst)⟩ ⟨PcA_blind _ _ _, fun U hU hW => ⟨rfl, by rw [hU]; exact hr, F.2.2.2.2.2.1.moved hW⟩⟩ rfl (by simpa using hal) hl.2.1 rfl (by show 2 * 0 + _ ≤ 8; rw [tv_sum]; omega) hd ⟨by omega, by omega⟩
  exact g_after hrun hl hS hc hs b1 b2
theorem g_special (F : Fx x p R s m args meth c mi) (hC : CeS x l d CE) (hd1 : d + 1 ≤ R.frames) (hd2 : 64 * (d + 1) ≤ R.locals) {m' i b : Nat} (hd : decode (mC mi) pc = .ok (.invokespecial i, 3)) (hin : (mY m').name = "<init>") (hf : (if b = 0 then mlT.contains (mO mi, i, m') else nlT.contains (mO mi, i, m')) = true) (q0 : pN (mA m') st fun as r => vh as h (mO m') ∧ cal CE (Gx x p l e R s m args below meth c Qf mi) m' pc as r ls h bc bs) : Gx x p l e R s m args below meth c Qf mi pc ls st h bc bs := by
  obtain ⟨as, r, rfl, hal, hvh, hrl, b1, b2, hce⟩ := pN_el q0
  have hm : m' < 119 := by
    by_cases hb : b = 0
    · rw [if_pos hb] at hf
      exact (ml_at hf).2
    · rw [if_neg hb] at hf
      have : ∀ t ∈ nlT, t.2.2 < 119 := by decide +kernel
      exact this (mO mi, i, m') (by simpa using hf)
  obtain ⟨p1, p2, p3, p4, p5, p6, p7, p8, p9⟩ := m_pl hm
  have hst : mSt m' = false ∧ mR m' = none := by
    rcases p7 with z | z
    · exact absurd hin z
    · exact ⟨z.2, z.1⟩
  rw [hst.1] at p5
  intro H locs cells slots la hl hr hS hc hs
  cases as with
  | nil => exact hvh.elim
  | cons a0 As =>
    cases a0 with
    | inl z => exact hvh.elim
    | inr a =>
      have hk : h.1.2.1 a = mO m' := hvh
      have hO : 0 < mO m' ∧ mO m' ≤ 12 := by
        have : ∀ k, k < 119 → 0 < mO k ∧ mO k ≤ 12 := by decide +kernel
        exact this m' hm
      obtain ⟨a1, a2, -⟩ := hr.ob hk hO.1 hO.2
      have hnA : As.length = mA m' - 1 := by rw [List.length_cons] at hal; omega
      have hav : (((Sum.inr a : AV) :: As).reverse ++ r).map (tv x) = (As.map (tv x)).reverse ++ .ref (tr x a) :: r.map (tv x) := by
        simp [tv_nz (show a ≠ 0 by omega)]
      rw [hav]
      have hp : PreS s H (PcA x (.inr a :: As) h) (.ref (tr x a) :: As.map (tv x)) := ⟨PcA_blind _ _ _, fun U hU hW => ⟨by rw [List.map_cons, tv_nz (show a ≠ 0 by omega)], by rw [hU]; exact hr, F.2.2.2.2.2.1.moved hW⟩⟩
      have hM := hC m' _ h _ hm hal hce
      by_cases hb : b = 0
      · rw [if_pos hb] at hf
        have hB := g_callB F hm p5 hd1 hd2 (F.2.2.2.2.1 _ (ml_at hf).1)
        rw [hst.2] at hB
        have hrun := va_runI (As := As.map (tv x)) (rest := r.map (tv x)) (b := tr x a) (g := F0 m pc la ((As.map (tv x)).reverse ++ .ref (tr x a) :: r.map (tv x))) (H := H) (locs := locs) (cells := cells) (slots := slots) (e := e) (below := below) (meth := meth) ⟨F.1, F.2.1, F.2.2.1, F.2.2.2.1, F.2.2.2.2.1⟩ hM ⟨hB, hin, F.2.2.2.2.1 _ (m_inst m' hm hst.1)⟩ hp rfl (by simpa using hnA) hl.2.1 rfl (by show 2 * 0 + _ ≤ 8; rw [tv_sum]; omega) hd ⟨by omega, by omega⟩
        exact g_after hrun hl hS hc hs b1 b2
      · rw [if_neg hb] at hf
        have hnw := F.2.2.2.2.2.1.2.2.1 (mO mi, i, m') (by simpa using hf)
        have hB : va_CN R s args (kN (mO mi)) i (mY m') "SoupTickets" (mC m') (mL m') (mR m') (wd m') (rmD d m') (mB m').1 (mB m').2 (mA m' - 1) := va_cnB (mA m' - 1) F.2.2.2.2.1 (wd_good hm) rfl rfl rfl hnw (F.2.2.2.2.1 _ (m_init m' hm)) ⟨p3, p4, p5⟩ ⟨hd1, by show 8 + (mL m' + 11) + 64 * d ≤ _; omega⟩
        rw [hst.2] at hB
        have hrun := va_runIN (As := As.map (tv x)) (rest := r.map (tv x)) (b := tr x a) (g := F0 m pc la ((As.map (tv x)).reverse ++ .ref (tr x a) :: r.map (tv x))) (H := H) (locs := locs) (cells := cells) (slots := slots) (e := e) (below := below) (meth := meth) ⟨F.1, F.2.1, F.2.2.1, F.2.2.2.1, F.2.2.2.2.1⟩ hM ⟨hB, hin, F.2.2.2.2.1 _ (m_inst m' hm hst.1)⟩ hp rfl (by simpa using hnA) hl.2.1 rfl (by show 2 * 0 + _ ≤ 8; rw [tv_sum]; omega) hd ⟨by omega, by omega⟩
        exact g_after hrun hl hS hc hs b1 b2
end CROWS
