section MROWS
variable {x : Cx} {p : Program} {l : Launch} {e : Env} {R : Room} {s : State} {m : MethodId} {args : Array Value} {below : List Frame} {meth : Method} {c : Code} {Qf : State → Prop} {mi pc : Nat} {ls : List LV} {st : List AV} {h : AH} {bc bs : Nat}
theorem va_S.more {A : Nat → Prop} {H0 H H1 : Heap} {locs : List Loc} (hS : va_S A H0 H locs) (hz : H1.size = H.size + 1) (ho : ∀ q, q < H.size → H1[q]? = H[q]?) : va_S A H0 H1 locs := ⟨Nat.le_trans hS.1 (by omega), fun q h1 h2 => (ho q (Nat.lt_of_lt_of_le h1 hS.1)).trans (hS.2.1 q h1 h2), hS.2.2⟩
theorem Rel.zero {x : Cx} {h : AH} {H : Heap} (r : Rel x h H) (K j : Nat) : h.2.1 K h.1.1 j = 0 ∧ h.2.2 K h.1.1 j = 0 := r.2.2.2.2.2.2.2 K h.1.1 j (Nat.le_refl _)
theorem g_new (F : Fx x p R s m args meth c mi) {i K : Nat} (hd : decode (mC mi) pc = .ok (.new i, 3)) (hf : clT.contains (mO mi, i, K) = true) (q0 : 1 ≤ bc ∧ kF K ≤ bs ∧ Gx x p l e R s m args below meth c Qf mi (pc + 3) ls (.inr h.1.1 :: st) ((h.1.1 + 1, u1 h.1.2.1 h.1.1 K, h.1.2.2), h.2) (bc - 1) (bs - kF K)) : Gx x p l e R s m args below meth c Qf mi pc ls st h bc bs := by
  obtain ⟨b1, b2, q⟩ := q0
  obtain ⟨hlk, h0, h12⟩ := cl_at hf
  intro H locs cells slots la hl hr hS hc hs
  have hKn := F.2.2.2.2.2.1.1.1 (K - 1) _ (vw_at K h0 h12)
  refine W.newcK F.1 F.2.1 F.2.2.2.1 (F.2.2.2.2.1 _ hlk) (F.2.2.2.2.1 _ (k_in h0 h12).1.1) (F.2.2.2.2.1 _ (k_in h0 h12).1.2) rfl hd (by omega) (by omega) hKn.2.1 rfl fun H1 kC hkC e1 z1 o1 => ?_
  have hl2 : u1 h.1.2.2 h.1.1 (h.1.2.2 h.1.1) = h.1.2.2 := by
    funext k
    unfold u1
    split
    · rename_i hh; rw [hh]
    · rfl
  have hrn := hr.new (h' := ((h.1.1 + 1, u1 h.1.2.1 h.1.1 K, h.1.2.2), h.2)) (c := K) (n := h.1.2.2 h.1.1) (by omega) (by omega) z1 o1 (by rw [hl2]) ?_
  · have q1 := q H1 locs (cells + 1) (slots + kF K) la hl hrn.1 (hS.more z1 o1) (by omega) (by omega)
    rw [List.map_cons, tv_nz (show h.1.1 ≠ 0 by have := hr.2.1; omega), hrn.2] at q1
    exact q1
  · unfold cellAt
    dsimp only
    have hk : u1 h.1.2.1 h.1.1 K h.1.1 = K := if_pos rfl
    rw [hk]
    refine ⟨fun _ => ?_, fun z => by omega, fun z => by omega⟩
    rw [tr_eq hr]
    refine (u_born (kY K) F.2.2.2.2.1 (k_in h0 h12).2 hKn hkC e1 (ty_at K h0 h12)).to (fun j hj => ?_)
    unfold fvl
    dsimp only
    rw [(hr.zero K j).1, (hr.zero K j).2]
    rcases ft_at h0 h12 hj with ⟨f1, f2⟩ | ⟨f1, f2⟩ | ⟨f1, ⟨n, f2⟩ | ⟨t, f2⟩⟩ <;> rw [f1, f2] <;> rfl
theorem g_newa (F : Fx x p R s m args meth c mi) {t : ArrayType} {K : Nat} (hd : decode (mC mi) pc = .ok (.newarray t, 2)) (hK : ((t == .int && K == 20) || (t == .boolean && K == 21)) = true) (q0 : pI st fun n r => ¬ n < 0 ∧ n.toNatClampNeg * 8 ≤ 536870912 ∧ 1 ≤ bc ∧ n.toNatClampNeg ≤ bs ∧ Gx x p l e R s m args below meth c Qf mi (pc + 2) ls (.inr h.1.1 :: r) ((h.1.1 + 1, u1 h.1.2.1 h.1.1 K, u1 h.1.2.2 h.1.1 n.toNatClampNeg), h.2) (bc - 1) (bs - n.toNatClampNeg)) : Gx x p l e R s m args below meth c Qf mi pc ls st h bc bs := by
  obtain ⟨n, r, rfl, hn, hby, b1, b2, q⟩ := pI_el q0
  intro H locs cells slots la hl hr hS hc hs
  have hsys := sys_ok
  simp only [Bool.and_eq_true] at hsys
  have hT : (t = .int ∧ K = 20) ∨ (t = .boolean ∧ K = 21) := by
    simp only [Bool.or_eq_true, Bool.and_eq_true, beq_iff_eq] at hK
    rcases hK with ⟨g1, g2⟩ | ⟨g1, g2⟩
    · refine Or.inl ⟨?_, g2⟩
      cases t <;> first | rfl | exact absurd g1 (by decide)
    · refine Or.inr ⟨?_, g2⟩
      cases t <;> first | rfl | exact absurd g1 (by decide)
  have main : ∀ (H1 : Heap) (cA : ClassId), cA = x.2.1 K → H1[H.size]? = some (arrV cA n.toNatClampNeg (fun _ => .int 0)) → H1.size = H.size + 1 → (∀ q, q < H.size → H1[q]? = H[q]?) → W p l e R s m args below meth c H1 locs (cells + 1) (slots + n.toNatClampNeg) Qf (F0 m (pc + 2) la (.ref H.size :: r.map (tv x))) := by
    intro H1 cA hcA e1 z1 o1
    have hrn := hr.new (h' := ((h.1.1 + 1, u1 h.1.2.1 h.1.1 K, u1 h.1.2.2 h.1.1 n.toNatClampNeg), h.2)) (c := K) (n := n.toNatClampNeg) (by omega) (by omega) z1 o1 rfl ?_
    · have q1 := q H1 locs (cells + 1) (slots + n.toNatClampNeg) la hl hrn.1 (hS.more z1 o1) (by omega) (by omega)
      rw [List.map_cons, tv_nz (show h.1.1 ≠ 0 by have := hr.2.1; omega), hrn.2] at q1
      exact q1
    · unfold cellAt
      dsimp only
      have hk : u1 h.1.2.1 h.1.1 K h.1.1 = K := if_pos rfl
      have hk2 : u1 h.1.2.2 h.1.1 n.toNatClampNeg h.1.1 = n.toNatClampNeg := if_pos rfl
      rw [hk, hk2]
      refine ⟨fun z => by omega, fun _ => ?_, fun z => by omega⟩
      rw [tr_eq hr, e1, hcA]
      congr 2
      funext j
      rw [(hr.zero K j).1]
  rcases hT with ⟨rfl, rfl⟩ | ⟨rfl, rfl⟩
  · refine va_newaK (atype := .int) F.1 F.2.1 (F.2.2.2.2.1 _ (wIn_of hsys.1.2)) rfl hd rfl hn rfl (show n.toNatClampNeg * 4 ≤ _ by omega) (by omega) (by omega) rfl fun H1 cA e1 z1 o1 hA hfc => ?_
    exact main H1 cA (Option.some.inj (hfc.symm.trans F.2.2.2.2.2.1.int.2)) e1 z1 o1
  · refine va_newaK (atype := .boolean) F.1 F.2.1 (F.2.2.2.2.1 _ (wIn_of hsys.2)) rfl hd rfl hn rfl (show n.toNatClampNeg * 1 ≤ _ by omega) (by omega) (by omega) rfl fun H1 cA e1 z1 o1 hA hfc => ?_
    exact main H1 cA (Option.some.inj (hfc.symm.trans F.2.2.2.2.2.1.bool.2)) e1 z1 o1
theorem g_anew (F : Fx x p R s m args meth c mi) {i K : Nat} (hd : decode (mC mi) pc = .ok (.anewarray i, 3)) (hK : 30 < K) (hf : clT.contains (mO mi, i, K - 30) = true) (hao : aoL.contains (K - 30) = true) (q0 : pI st fun n r => ¬ n < 0 ∧ n.toNatClampNeg * 8 ≤ 536870912 ∧ 1 ≤ bc ∧ n.toNatClampNeg ≤ bs ∧ Gx x p l e R s m args below meth c Qf mi (pc + 3) ls (.inr h.1.1 :: r) ((h.1.1 + 1, u1 h.1.2.1 h.1.1 K, u1 h.1.2.2 h.1.1 n.toNatClampNeg), h.2) (bc - 1) (bs - n.toNatClampNeg)) : Gx x p l e R s m args below meth c Qf mi pc ls st h bc bs := by
  obtain ⟨n, r, rfl, hn, hby, b1, b2, q⟩ := pI_el q0
  intro H locs cells slots la hl hr hS hc hs
  have hmem : K - 30 ∈ aoL := by simpa using hao
  have hA := F.2.2.2.2.2.1.arr hmem
  rw [show 30 + (K - 30) = K by omega] at hA
  obtain ⟨kA, comp, -, -, -, f4⟩ := hA.2
  refine W.anew F.1 F.2.1 F.2.2.2.1 (F.2.2.2.2.1 _ (cl_at hf).1) (va_AO.use (F.2.2.2.2.2.1.2.1 _ hmem)) rfl hd rfl hn (by omega) (by omega) (by omega) fun cA kA2 comp2 g1 g2 g3 g4 => ?_
  have hcA : cA = x.2.1 K := Option.some.inj (g1.symm.trans f4)
  generalize hH1 : H.push ({ cls := cA, slots := Array.replicate n.toNatClampNeg .null, vm := .none } : Cell) = H1
  have z1 : H1.size = H.size + 1 := by rw [← hH1, Array.size_push]
  have e1 : H1[H.size]? = some (arrV cA n.toNatClampNeg (fun _ => .null)) := by rw [← hH1, Array.getElem?_push_size, ← arrV_new]
  have o1 : ∀ q : Nat, q < H.size → H1[q]? = H[q]? := fun q hq => by rw [← hH1, Array.getElem?_push, if_neg (Nat.ne_of_lt hq)]
  have hrn := hr.new (h' := ((h.1.1 + 1, u1 h.1.2.1 h.1.1 K, u1 h.1.2.2 h.1.1 n.toNatClampNeg), h.2)) (c := K) (n := n.toNatClampNeg) (by omega) (by omega) z1 o1 rfl ?_
  · have q1 := q H1 locs (cells + 1) (slots + n.toNatClampNeg) la hl hrn.1 (hS.more z1 o1) (by omega) (by omega)
    rw [List.map_cons, tv_nz (show h.1.1 ≠ 0 by have := hr.2.1; omega), hrn.2] at q1
    exact q1
  · unfold cellAt
    dsimp only
    have hk : u1 h.1.2.1 h.1.1 K h.1.1 = K := if_pos rfl
    have hk2 : u1 h.1.2.2 h.1.1 n.toNatClampNeg h.1.1 = n.toNatClampNeg := if_pos rfl
    rw [hk, hk2]
    refine ⟨fun z => by omega, fun z => by omega, fun _ => ?_⟩
    rw [tr_eq hr, e1, hcA]
    congr 2
    funext j
    rw [(hr.zero K j).2]
    rfl
theorem g_objInit (F : Fx x p R s m args meth c mi) {i : Nat} (hd : decode (mC mi) pc = .ok (.invokespecial i, 3)) (hf : spT.contains (mO mi, i, 904) = true) (q0 : pR st fun a r => (¬ a = 0 ∧ r.length ≤ 8) ∧ Gx x p l e R s m args below meth c Qf mi (pc + 3) ls r h bc bs) : Gx x p l e R s m args below meth c Qf mi pc ls st h bc bs := by
  obtain ⟨a, r, rfl, ⟨ha, hrl⟩, q⟩ := pR_el q0
  intro H locs cells slots la hl hr hS hc hs
  have hsys := sys_ok
  simp only [Bool.and_eq_true] at hsys
  rw [List.map_cons, tv_nz ha]
  refine W.objInit F.1 F.2.1 F.2.2.2.1 (F.2.2.2.2.1 _ (sp_at hf).1) (F.2.2.2.2.1 _ (wIn_of hsys.1.1.1.2)) (F.2.2.2.2.1 _ (wIn_of hsys.1.1.2)) rfl (by rw [F.2.2.1]; exact hl.2.1) rfl hd F.2.2.2.2.2.2.2.2.1 ?_ (q H locs cells slots la hl hr hS hc hs)
  show 2 * 0 + _ + 12 ≤ _
  rw [tv_sum]
  have := F.2.2.2.2.2.2.2.2.2.1
  omega
theorem g_max (F : Fx x p R s m args meth c mi) {i : Nat} (hd : decode (mC mi) pc = .ok (.invokestatic i, 3)) (hf : spT.contains (mO mi, i, 900) = true) (q0 : pI st fun y r => pI r fun v r => r.length ≤ 8 ∧ Gx x p l e R s m args below meth c Qf mi (pc + 3) ls (.inl (if v < y then y else v) :: r) h bc bs) : Gx x p l e R s m args below meth c Qf mi pc ls st h bc bs := by
  obtain ⟨y, r, rfl, q1⟩ := pI_el q0
  obtain ⟨v, r, rfl, hrl, q⟩ := pI_el q1
  intro H locs cells slots la hl hr hS hc hs
  have hsys := sys_ok
  simp only [Bool.and_eq_true] at hsys
  obtain ⟨⟨⟨⟨⟨⟨⟨⟨⟨⟨⟨⟨⟨z1, z2⟩, z3⟩, z4⟩, z5⟩, z6⟩, z7⟩, z8⟩, z9⟩, z10⟩, z11⟩, z12⟩, z13⟩, z14⟩ := hsys
  have := F.2.2.2.2.2.2.2.2.2.1
  exact va_mmax F.1 F.2.1 (by rw [F.2.2.1]; exact hl.2.1.symm) F.2.2.2.1 (F.2.2.2.2.1 _ (sp_at hf).1) (F.2.2.2.2.1 _ (wIn_of z1)) (F.2.2.2.2.1 _ (wIn_of z4)) (F.2.2.2.2.1 _ (wIn_of z5)) F.2.2.2.2.2.2.2.2.1 (by rw [tv_sum]; omega) (by omega) (by omega) hd (q H locs cells slots la hl hr hS hc hs)
theorem g_min (F : Fx x p R s m args meth c mi) {i : Nat} (hd : decode (mC mi) pc = .ok (.invokestatic i, 3)) (hf : spT.contains (mO mi, i, 901) = true) (q0 : pI st fun y r => pI r fun v r => r.length ≤ 8 ∧ Gx x p l e R s m args below meth c Qf mi (pc + 3) ls (.inl (if y < v then y else v) :: r) h bc bs) : Gx x p l e R s m args below meth c Qf mi pc ls st h bc bs := by
  obtain ⟨y, r, rfl, q1⟩ := pI_el q0
  obtain ⟨v, r, rfl, hrl, q⟩ := pI_el q1
  intro H locs cells slots la hl hr hS hc hs
  have hsys := sys_ok
  simp only [Bool.and_eq_true] at hsys
  obtain ⟨⟨⟨⟨⟨⟨⟨⟨⟨⟨⟨⟨⟨z1, z2⟩, z3⟩, z4⟩, z5⟩, z6⟩, z7⟩, z8⟩, z9⟩, z10⟩, z11⟩, z12⟩, z13⟩, z14⟩ := hsys
  have := F.2.2.2.2.2.2.2.2.2.1
  exact va_mmin F.1 F.2.1 (by rw [F.2.2.1]; exact hl.2.1.symm) F.2.2.2.1 (F.2.2.2.2.1 _ (sp_at hf).1) (F.2.2.2.2.1 _ (wIn_of z2)) (F.2.2.2.2.1 _ (wIn_of z4)) (F.2.2.2.2.1 _ (wIn_of z6)) F.2.2.2.2.2.2.2.2.1 (by rw [tv_sum]; omega) (by omega) (by omega) hd (q H locs cells slots la hl hr hS hc hs)
theorem g_abs (F : Fx x p R s m args meth c mi) {i : Nat} (hd : decode (mC mi) pc = .ok (.invokestatic i, 3)) (hf : spT.contains (mO mi, i, 902) = true) (q0 : pI st fun v r => r.length ≤ 8 ∧ Gx x p l e R s m args below meth c Qf mi (pc + 3) ls (.inl (if 0 ≤ v then v else 0 - v) :: r) h bc bs) : Gx x p l e R s m args below meth c Qf mi pc ls st h bc bs := by
  obtain ⟨v, r, rfl, hrl, q⟩ := pI_el q0
  intro H locs cells slots la hl hr hS hc hs
  have hsys := sys_ok
  simp only [Bool.and_eq_true] at hsys
  obtain ⟨⟨⟨⟨⟨⟨⟨⟨⟨⟨⟨⟨⟨z1, z2⟩, z3⟩, z4⟩, z5⟩, z6⟩, z7⟩, z8⟩, z9⟩, z10⟩, z11⟩, z12⟩, z13⟩, z14⟩ := hsys
  have := F.2.2.2.2.2.2.2.2.2.1
  exact va_mabs F.1 F.2.1 (by rw [F.2.2.1]; exact hl.2.1.symm) F.2.2.2.1 (F.2.2.2.2.1 _ (sp_at hf).1) (F.2.2.2.2.1 _ (wIn_of z3)) (F.2.2.2.2.1 _ (wIn_of z4)) (F.2.2.2.2.1 _ (wIn_of z7)) F.2.2.2.2.2.2.2.2.1 (by rw [tv_sum]; omega) (by omega) (by omega) hd (q H locs cells slots la hl hr hS hc hs)
theorem g_copy (F : Fx x p R s m args meth c mi) {i : Nat} (hd : decode (mC mi) pc = .ok (.invokestatic i, 3)) (hf : spT.contains (mO mi, i, 903) = true) (q0 : pI st fun n r => pI r fun dp r => pR r fun a r => pI r fun sp r => pR r fun a0 r => (r.length ≤ 8 ∧ h.1.2.1 a = 20 ∧ h.1.2.1 a0 = 20 ∧ ¬ sp < 0 ∧ ¬ dp < 0 ∧ ¬ n < 0 ∧ sp.toNatClampNeg + n.toNatClampNeg ≤ h.1.2.2 a0 ∧ dp.toNatClampNeg + n.toNatClampNeg ≤ h.1.2.2 a) ∧ Gx x p l e R s m args below meth c Qf mi (pc + 3) ls r (h.1, cp3 h.2.1 a0 sp.toNatClampNeg a dp.toNatClampNeg n.toNatClampNeg, h.2.2) bc bs) : Gx x p l e R s m args below meth c Qf mi pc ls st h bc bs := by
  obtain ⟨n, r, rfl, q1⟩ := pI_el q0
  obtain ⟨dp, r, rfl, q2⟩ := pI_el q1
  obtain ⟨a, r, rfl, q3⟩ := pR_el q2
  obtain ⟨sp, r, rfl, q4⟩ := pI_el q3
  obtain ⟨a0, r, rfl, ⟨hrl, hka, hka0, h1, h2, h3, h4, h5⟩, q⟩ := pR_el q4
  intro H locs cells slots la hl hr hS hc hs
  have hsys := sys_ok
  simp only [Bool.and_eq_true] at hsys
  obtain ⟨⟨⟨⟨⟨⟨⟨⟨⟨⟨⟨⟨⟨z1, z2⟩, z3⟩, z4⟩, z5⟩, z6⟩, z7⟩, z8⟩, z9⟩, z10⟩, z11⟩, z12⟩, z13⟩, z14⟩ := hsys
  have hR := F.2.2.2.2.2.2.2.2.2.1
  obtain ⟨a1, a2, hc1⟩ := hr.ai hka (Or.inl rfl)
  obtain ⟨b1, b2, hc0⟩ := hr.ai hka0 (Or.inl rfl)
  have nn : ∀ z : Int32, ¬ z < 0 → z.toInt = (z.toNatClampNeg : Int) := by
    intro z hz
    have hz0 : (0 : Int) ≤ z.toInt := by
      have := Int32.not_lt.mp hz
      simpa using Int32.le_iff_toInt_le.mp this
    show z.toInt = ((z.toInt.toNat : Nat) : Int)
    omega
  rw [List.map_cons, List.map_cons, List.map_cons, List.map_cons, List.map_cons, tv_nz (show a ≠ 0 by omega), tv_nz (show a0 ≠ 0 by omega)]
  intro T hT X
  obtain ⟨-, k0, hk0, cm0, hkk0⟩ := F.2.2.2.2.2.1.int.1 (h.1.2.2 a0) (fun j => .int (h.2.1 20 a0 j))
  obtain ⟨-, k1, hk1, cm1, hkk1⟩ := F.2.2.2.2.2.1.int.1 (h.1.2.2 a) (fun j => .int (h.2.1 20 a j))
  obtain ⟨vm', X', step⟩ := X.arraycopy F.1 F.2.2.2.1 (F.2.2.2.2.1 _ (sp_at hf).1) (F.2.2.2.2.1 _ (wIn_of z8)) (F.2.2.2.2.1 _ (wIn_of z9)) (F.2.2.2.2.1 _ (wIn_of z10)) (src := tr x a0) (dst := tr x a) (cs := vp_cell (x.2.1 20) (h.1.2.2 a0, .inl (h.2.1 20 a0))) (cd := vp_cell (x.2.1 20) (h.1.2.2 a, .inl (h.2.1 20 a))) (srcPos := sp) (destPos := dp) (n := n) (by rw [hT]; exact hc0) (by rw [hT]; exact hc1)
    (fun _ h => by cases h) (fun _ h => by cases h) (fun h => by cases h) (fun h => by cases h) hk0 hk1 hkk0 hkk1 (by rfl) h1 h2 h3
    (by rw [nn sp h1, nn n h3]; show ¬ _ > ((arrV (x.2.1 20) (h.1.2.2 a0) (fun j => .int (h.2.1 20 a0 j))).slots.size : Int); rw [arrV_size]; omega)
    (by rw [nn dp h2, nn n h3]; show ¬ _ > ((arrV (x.2.1 20) (h.1.2.2 a) (fun j => .int (h.2.1 20 a j))).slots.size : Int); rw [arrV_size]; omega)
    (fun vm₁ _ i hi => by
      have e : (vp_cell (x.2.1 20) (h.1.2.2 a0, .inl (h.2.1 20 a0))).slots.getD (sp.toNatClampNeg + i) .null = .int (h.2.1 20 a0 (sp.toNatClampNeg + i)) := by
        show (arrV (x.2.1 20) (h.1.2.2 a0) (fun j => .int (h.2.1 20 a0 j))).slots.getD _ _ = _
        rw [Array.getD_eq_getD_getElem?, arrV_read _ _ (by omega)]
        rfl
      refine ⟨?_, ?_⟩
      · rw [e]
        rfl
      · rw [e]
        exact trivial)
    (g := F0 m pc la (.int n :: .int dp :: .ref (tr x a) :: .int sp :: .ref (tr x a0) :: r.map (tv x))) rfl (by rw [F.2.2.1]; exact hl.2.1) (rest := r.map (tv x)) rfl (by rw [F.2.1]; exact hd) F.2.2.2.2.2.2.2.2.1 (by show 2 * 0 + _ + (nativeFrameWords "java/lang/System" "arraycopy" 5 + 11) ≤ _; rw [tv_sum, show nativeFrameWords "java/lang/System" "arraycopy" 5 = 7 from by decide]; omega)
  have e1 : copied (vp_cell (x.2.1 20) (h.1.2.2 a0, .inl (h.2.1 20 a0))) (vp_cell (x.2.1 20) (h.1.2.2 a, .inl (h.2.1 20 a))) sp dp n = vp_cell (x.2.1 20) (h.1.2.2 a, .inl (va_cpy (h.2.1 20 a0) (h.2.1 20 a) sp.toNatClampNeg dp.toNatClampNeg n.toNatClampNeg)) := va_copied (fun z => .int z) (x.2.1 20) (x.2.1 20) (h.2.1 20 a0) (h.2.1 20 a) h4
  rw [e1] at X' step
  have hla : tr x a < H.size := (Array.getElem?_eq_some_iff.mp hc1).1
  generalize hce : vp_cell (x.2.1 20) (h.1.2.2 a, .inl (va_cpy (h.2.1 20 a0) (h.2.1 20 a) sp.toNatClampNeg dp.toNatClampNeg n.toNatClampNeg)) = ce at X' step
  have hheap : ((T.setVm vm').setCell (tr x a) ce).heap = H.setIfInBounds (tr x a) ce := by rw [← hT]; rfl
  have oq : ∀ q : Nat, q ≠ tr x a → (H.setIfInBounds (tr x a) ce)[q]? = H[q]? := fun q hq => by simp [Array.getElem?_setIfInBounds, Ne.symm hq]
  have hself : (H.setIfInBounds (tr x a) ce)[tr x a]? = some ce := by simp [Array.getElem?_setIfInBounds, hla]
  have hBa : x.2.2.2.1 ≤ tr x a := by rw [tr_ge a1]; omega
  obtain ⟨t, t1, t2⟩ := q (H.setIfInBounds (tr x a) ce) _ cells slots la hl (hr.upd a1 a2 (by simp) oq rfl (fun K k j hne => ⟨if_neg (fun z => hne z.2), rfl⟩) (by
      unfold cellAt
      dsimp only
      rw [hka]
      refine ⟨fun z => by omega, fun _ => ?_, fun z => by omega⟩
      rw [hself, ← hce]
      have ej : (fun j => Value.int (cp3 h.2.1 a0 sp.toNatClampNeg a dp.toNatClampNeg n.toNatClampNeg 20 a j)) = (fun j => Value.int (va_cpy (h.2.1 20 a0) (h.2.1 20 a) sp.toNatClampNeg dp.toNatClampNeg n.toNatClampNeg j)) := by
        funext j
        unfold cp3
        rw [if_pos ⟨rfl, rfl⟩]
      rw [ej]
      rfl)) ⟨by simp; exact hS.1, fun q g1 g2 => by
      rw [oq q (fun e => g2 (by rw [e]; exact hBa))]
      exact hS.2.1 q g1 g2, fun q hq => by
      rcases List.mem_append.mp hq with h | h
      · exact hS.2.2 q h
      · obtain ⟨z, -, hz⟩ := List.mem_map.mp h
        rw [← hz]
        exact hBa⟩ hc hs _ hheap X'
  exact ⟨t, step t t1, t2⟩
theorem swt_el {y : Int32} {f : Nat → Prop} {d : Prop} : ∀ (l : List (Int32 × Nat)), swt y l f d → (∃ (k : Nat) (v : Int32) (t : Nat), l[k]? = some (v, t) ∧ y = v ∧ f t) ∨ ((∀ q ∈ l, y ≠ q.1) ∧ d)
  | [], h => Or.inr ⟨fun _ hq => absurd hq List.not_mem_nil, h⟩
  | (v, t) :: r, h => by
    unfold swt at h
    by_cases e : y = v
    · rw [if_pos e] at h
      exact Or.inl ⟨0, v, t, rfl, e, h⟩
    · rw [if_neg e] at h
      rcases swt_el r h with ⟨k, v', t', h1, h2⟩ | ⟨h1, h2⟩
      · exact Or.inl ⟨k + 1, v', t', h1, h2⟩
      · refine Or.inr ⟨fun q hq => ?_, h2⟩
        rcases List.mem_cons.mp hq with rfl | hq
        · exact e
        · exact h1 q hq
theorem g_switch (F : Fx x p R s m args meth c mi) {d lo hi : Int} {offs : Array Int} {n k b : Nat} (hd : decode (mC mi) pc = .ok (.tableswitch d lo hi offs, n))
    (hok : (lo == 0 && hi + 1 == (offs.size : Int) && (pc : Int) + d == (b : Int) && (swL k).length == offs.size && (List.range offs.size).all (fun i => (swL k)[i]? == some (Int32.ofInt i, ((pc : Int) + offs.getD i 0).toNat) && decide ((0 : Int) ≤ (pc : Int) + offs.getD i 0))) = true)
    (hsz : offs.size < 1000)
    (q0 : pI st fun v r => swt v (swL k) (fun t => Gx x p l e R s m args below meth c Qf mi t ls r h bc bs) (Gx x p l e R s m args below meth c Qf mi b ls r h bc bs)) : Gx x p l e R s m args below meth c Qf mi pc ls st h bc bs := by
  obtain ⟨v, r, rfl, q⟩ := pI_el q0
  simp only [Bool.and_eq_true, beq_iff_eq, List.all_eq_true, List.mem_range, decide_eq_true_eq] at hok
  obtain ⟨⟨⟨⟨rfl, h2⟩, h3⟩, h4⟩, h5⟩ := hok
  intro H locs cells slots la hl hr hS hc hs
  have tI : ∀ i : Nat, i < 1000 → (Int32.ofInt (i : Int)).toInt = (i : Int) := by
    intro i hi
    rw [Int32.toInt_ofInt_of_le (by first | omega | (simp; done) | (simp; omega)) (by first | omega | (simp; done) | (simp; omega))]
  rcases swt_el _ q with ⟨i, w, t, g1, rfl, g2⟩ | ⟨g1, g2⟩
  · have hi : i < offs.size := by rw [← h4]; exact (List.getElem?_eq_some_iff.mp g1).1
    obtain ⟨e1, e2⟩ := h5 i hi
    rw [g1] at e1
    cases e1
    have hv := tI i (by omega)
    refine lv_tableIn F.1 F.2.1 hd (by omega) (by omega) (off := offs.getD i 0) ?_ (by omega) (g2 H locs cells slots la hl hr hS hc hs)
    rw [hv, Int.sub_zero, Int.toNat_natCast, Array.getD_eq_getD_getElem?, Array.getElem?_eq_getElem hi]
    rfl
  · refine lv_tableOut F.1 F.2.1 hd ?_ h3 (g2 H locs cells slots la hl hr hS hc hs)
    by_cases hv : v.toInt < 0
    · exact Or.inl hv
    · refine Or.inr (Int.not_le.mp fun hle => ?_)
      have hi : v.toInt.toNat < offs.size := by omega
      obtain ⟨e1, -⟩ := h5 _ hi
      refine g1 _ (List.mem_of_getElem? e1) ?_
      show v = Int32.ofInt (v.toInt.toNat : Int)
      rw [Int.toNat_of_nonneg (by omega), Int32.ofInt_toInt]
end MROWS
