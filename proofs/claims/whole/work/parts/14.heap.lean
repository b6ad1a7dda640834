theorem u3_ne {α : Type} {f : Nat → Nat → Nat → α} {c a j : Nat} {v : α} {K k j' : Nat} (hne : k ≠ a) : u3 f c a j v K k j' = f K k j' := if_neg (fun z => hne z.2.1)
theorem u3_eq {α : Type} {f : Nat → Nat → Nat → α} {c a j : Nat} {v : α} : u3 f c a j v c a j = v := if_pos ⟨rfl, rfl, rfl⟩
theorem u3_nj {α : Type} {f : Nat → Nat → Nat → α} {c a j : Nat} {v : α} {K k j' : Nat} (hne : j' ≠ j) : u3 f c a j v K k j' = f K k j' := if_neg (fun z => hne z.2.2)
theorem KK.int {x : Cx} {s : State} (h : KK x s) : ArrOfT s (x.2.1 20) .int ∧ va_RA s (x.2.1 20) .int := h.1.2 0 _ rfl
theorem KK.bool {x : Cx} {s : State} (h : KK x s) : ArrOfT s (x.2.1 21) .boolean ∧ va_RA s (x.2.1 21) .boolean := h.1.2 1 _ rfl
theorem KK.arr {x : Cx} {s : State} (h : KK x s) {k : Nat} (hk : k ∈ aoL) : ArrOfT s (x.2.1 (30 + k)) (.object (kN k)) ∧ va_RA s (x.2.1 (30 + k)) (.object (kN k)) := by
  obtain ⟨i, hi⟩ := List.getElem?_of_mem (show (x.2.1 (30 + k), FieldType.object (kN k)) ∈ tyL x from List.mem_append_right _ (List.mem_map.mpr ⟨k, hk, rfl⟩))
  exact h.1.2 i _ hi
theorem Rel.scr {x : Cx} {h : AH} {H : Heap} (r : Rel x h H) {a : Nat} (ha : h.1.2.1 a = 19) : a = 1 := by
  rcases r.2.2.2.2.1 a (by rw [ha]; decide) with e | ⟨-, -, e⟩
  · exact e
  · exact absurd ha e
section HROWS
variable {x : Cx} {p : Program} {l : Launch} {e : Env} {R : Room} {s : State} {m : MethodId} {args : Array Value} {below : List Frame} {meth : Method} {c : Code} {Qf : State → Prop} {mi pc : Nat} {ls : List LV} {st : List AV} {h : AH} {bc bs : Nat}
theorem g_get (F : Fx x p R s m args meth c mi) {i K j : Nat} (hd : decode (mC mi) pc = .ok (.getfield i, 3)) (hf : flT.contains (mO mi, i, K, j) = true) (q0 : pR st fun a r => h.1.2.1 a = K ∧ Gx x p l e R s m args below meth c Qf mi (pc + 3) ls (fvl h K a j :: r) h bc bs) : Gx x p l e R s m args below meth c Qf mi pc ls st h bc bs := by
  obtain ⟨a, r, rfl, hk, q⟩ := pR_el q0
  obtain ⟨hlk, h0, h12, hj⟩ := fl_at hf
  intro H locs cells slots la hl hr hS hc hs
  obtain ⟨a1, a2, cell, q1, q2, q3, q4⟩ := hr.ob hk h0 h12
  obtain ⟨hSl, hfc, kC, hkC, hkind⟩ := F.2.2.2.2.2.1.1.1 (K - 1) _ (vw_at K h0 h12)
  obtain ⟨cf, kf, fi, f, hi, hsl⟩ := hSl j hj
  rw [List.map_cons, tv_nz (show a ≠ 0 by omega)]
  refine W.getf F.1 F.2.1 F.2.2.2.1 (F.2.2.2.2.1 _ hlk) hi (u_facts hfc hkC (u_lays F.2.2.2.2.1 (k_in h0 h12).2 hj) hi).1 q1 (by rw [q3]; exact fun h => by cases h) (v := tv x (fvl h K a j)) ?_ rfl rfl hd (q H locs cells slots la hl hr hS hc hs)
  rw [hsl, q4 j hj]
theorem g_putv (F : Fx x p R s m args meth c mi) {i K j : Nat} (hd : decode (mC mi) pc = .ok (.putfield i, 3)) (hf : flT.contains (mO mi, i, K, j) = true) (hfin : (!isFin K j || ((mY mi).name == "<init>" && (kT K j).1 == kN (mO mi))) = true) {v : AV} {a : Nat} {r : List AV} {h' : AH} (hn : narrow (kY K j) (tv x v) = tv x v) (hfit : fits (kY K j) (tv x v) = true) (hk : h.1.2.1 a = K) (h1 : h'.1 = h.1) (ho : ∀ K' k j', k ≠ a → h'.2.1 K' k j' = h.2.1 K' k j' ∧ h'.2.2 K' k j' = h.2.2 K' k j') (hself : ∀ j', fvl h' K a j' = if j' = j then v else fvl h K a j') (q : Gx x p l e R s m args below meth c Qf mi (pc + 3) ls r h' bc bs) : Gx x p l e R s m args below meth c Qf mi pc ls (v :: .inr a :: r) h bc bs := by
  obtain ⟨hlk, h0, h12, hj⟩ := fl_at hf
  intro H locs cells slots la hl hr hS hc hs
  obtain ⟨a1, a2, cell, q1, q2, q3, q4⟩ := hr.ob hk h0 h12
  obtain ⟨hSl, hfc, kC, hkC, hkind⟩ := F.2.2.2.2.2.1.1.1 (K - 1) _ (vw_at K h0 h12)
  obtain ⟨cf, kf, fi, f, hi, hsl⟩ := hSl j hj
  have hap := va_apart (own := kN (mO mi)) F.2.2.2.2.1 (k_in h0 h12).2 (kY K) (ty_at K h0 h12) (nm_at K h0 h12) F.2.2.2.2.2.1.1 (vw_at K h0 h12)
  have hlay := F.2.2.2.2.1 _ ((k_in h0 h12).2 _ (u_in_lay hj))
  have hst := (u_facts hfc hkC (u_lays F.2.2.2.2.1 (k_in h0 h12).2 hj) hi).1
  unfold u_lay at hlay
  rw [List.map_cons, List.map_cons, tv_nz (show a ≠ 0 by omega)]
  have fin : ∀ H' : Heap, H'[tr x a]? = some (cell.setSlot f.slot (tv x v)) → H'.size = H.size → (∀ q, q ≠ tr x a → H'[q]? = H[q]?) → W p l e R s m args below meth c H' (locs ++ [⟨tr x a, f.slot⟩]) cells slots Qf (F0 m (pc + 3) la (r.map (tv x))) := by
    intro H' e1 e2 e3
    rw [hsl] at e1
    refine q H' _ cells slots la hl (hr.upd a1 a2 e2 e3 h1 ho ?_) (hS.put e2 e3 (by show x.2.2.2.1 ≤ tr x a; rw [tr_ge a1]; omega)) hc hs
    have hk' : h'.1.2.1 a = K := by rw [h1]; exact hk
    unfold cellAt
    rw [hk']
    refine ⟨fun _ => ?_, fun z => ?_, fun z => ?_⟩
    · refine t_OB.to (V := updV (fun j' => tv x (fvl h K a j')) j (tv x v)) ⟨_, e1, q2, q3, t_set q4 hap hj (tv x v)⟩ (fun j' _ => ?_)
      rw [hself j']
      unfold updV
      split <;> rfl
    · omega
    · omega
  by_cases hfn : (kT K j).2.2.2 = true
  · rw [if_pos hfn] at hlay
    have hfin2 : (mY mi).name = "<init>" ∧ (kT K j).1 = kN (mO mi) := by
      unfold isFin at hfin
      rw [hfn] at hfin
      simpa using hfin
    have hcf : m.cls = cf := by
      obtain ⟨_, _, c', _, _, _, -, -, hf', -, -, -, hown2, -⟩ := Cond.laysFinal_spec hlay
      have e1 : c' = cf := by have := hi.symm.trans hf'; simp at this; exact this.1.symm
      rw [hfin2.2] at hown2
      rw [← e1]; exact Option.some.inj (F.2.2.2.1.symm.trans hown2)
    have h6 := u_fits hfc hkC hkind (Or.inr hlay) hi (ty_at K h0 h12 j hj) hn hfit
    exact W.putFinK F.1 F.2.1 F.2.2.2.1 (F.2.2.2.2.1 _ hlk) hi hst hcf (F.2.2.2.2.2.2.1 hfin2.1) (by rw [q2]; exact h6) q1 q3 (by rw [hsl]; exact k2_hasslot (q4 j hj)) rfl rfl hd fin
  · rw [if_neg hfn] at hlay
    have h6 := u_store hfc hkC hkind hlay hi (ty_at K h0 h12 j hj) hn hfit
    exact W.putK F.1 F.2.1 (f := f) ⟨F.2.2.2.1, F.2.2.2.2.1 _ hlk, ⟨_, _, _, hi⟩, hst⟩ (by rw [q2]; exact h6) q1 q3 (by rw [hsl]; exact k2_hasslot (q4 j hj)) rfl rfl hd fin
theorem g_put (F : Fx x p R s m args meth c mi) {i K j : Nat} (hd : decode (mC mi) pc = .ok (.putfield i, 3)) (hf : flT.contains (mO mi, i, K, j) = true) (hfin : (!isFin K j || ((mY mi).name == "<init>" && (kT K j).1 == kN (mO mi))) = true)
    (q0 : if ft K j = 2 then pR st fun v r => pR r fun a r => h.1.2.1 a = K ∧ Gx x p l e R s m args below meth c Qf mi (pc + 3) ls r (h.1, h.2.1, u3 h.2.2 K a j v) bc bs else pI st fun v r => pR r fun a r => h.1.2.1 a = K ∧ (ft K j = 1 → v = 0 ∨ v = 1) ∧ Gx x p l e R s m args below meth c Qf mi (pc + 3) ls r (h.1, u3 h.2.1 K a j v, h.2.2) bc bs) : Gx x p l e R s m args below meth c Qf mi pc ls st h bc bs := by
  obtain ⟨hlk, h0, h12, hj⟩ := fl_at hf
  by_cases h2 : ft K j = 2
  · rw [if_pos h2] at q0
    obtain ⟨v, r, rfl, q1⟩ := pR_el q0
    obtain ⟨a, r, rfl, hk, q⟩ := pR_el q1
    have hy : (∃ n, kY K j = .object n) ∨ ∃ t, kY K j = .array t := by
      rcases ft_at h0 h12 hj with z | z | z
      · omega
      · omega
      · exact z.2
    refine g_putv F hd hf hfin (v := .inr v) (h' := (h.1, h.2.1, u3 h.2.2 K a j v)) ?_ ?_ hk rfl (fun K' k j' hne => ⟨rfl, ?_⟩) (fun j' => ?_) q
    · by_cases hv : v = 0
      · subst hv
        rcases hy with ⟨n, hn⟩ | ⟨t, hn⟩ <;> rw [hn] <;> rfl
      · rw [tv_nz hv]
        rcases hy with ⟨n, hn⟩ | ⟨t, hn⟩ <;> rw [hn] <;> rfl
    · by_cases hv : v = 0
      · subst hv
        rcases hy with ⟨n, hn⟩ | ⟨t, hn⟩ <;> rw [hn] <;> rfl
      · rw [tv_nz hv]
        rcases hy with ⟨n, hn⟩ | ⟨t, hn⟩ <;> rw [hn] <;> rfl
    · show u3 h.2.2 K a j v K' k j' = _
      unfold u3
      rw [if_neg (fun z => hne z.2.1)]
    · by_cases e : j' = j
      · subst e
        rw [if_pos rfl]
        unfold fvl
        rw [if_pos h2]
        show (Sum.inr (u3 h.2.2 K a j' v K a j') : AV) = _
        rw [u3_eq]
      · rw [if_neg e]
        show (if ft K j' = 2 then (Sum.inr (u3 h.2.2 K a j v K a j') : AV) else (Sum.inl (h.2.1 K a j') : AV)) = _
        rw [u3_nj e]
        rfl
  · rw [if_neg h2] at q0
    obtain ⟨v, r, rfl, q1⟩ := pI_el q0
    obtain ⟨a, r, rfl, hk, hb, q⟩ := pR_el q1
    have hy : kY K j = .int ∨ (kY K j = .boolean ∧ (v = 0 ∨ v = 1)) := by
      rcases ft_at h0 h12 hj with z | z | z
      · exact Or.inl z.2
      · exact Or.inr ⟨z.2, hb z.1⟩
      · omega
    refine g_putv F hd hf hfin (v := .inl v) (h' := (h.1, u3 h.2.1 K a j v, h.2.2)) ?_ ?_ hk rfl (fun K' k j' hne => ⟨?_, rfl⟩) (fun j' => ?_) q
    · rcases hy with hn | ⟨hn, rfl | rfl⟩ <;> rw [hn] <;> rfl
    · rcases hy with hn | ⟨hn, rfl | rfl⟩ <;> rw [hn] <;> rfl
    · show u3 h.2.1 K a j v K' k j' = _
      unfold u3
      rw [if_neg (fun z => hne z.2.1)]
    · by_cases e : j' = j
      · subst e
        rw [if_pos rfl]
        unfold fvl
        rw [if_neg h2]
        show (Sum.inl (u3 h.2.1 K a j' v K a j') : AV) = _
        rw [u3_eq]
      · rw [if_neg e]
        show (if ft K j' = 2 then (Sum.inr (h.2.2 K a j') : AV) else (Sum.inl (u3 h.2.1 K a j v K a j') : AV)) = _
        rw [u3_nj e]
        rfl
theorem in_lt {i : Int32} {n : Nat} (h : vp_in i n) : i.toNatClampNeg < n := Nat.not_le.mp fun q => h (Or.inr q)
theorem g_iald (F : Fx x p R s m args meth c mi) {K : Nat} (hK : (K == 19 || K == 20) = true) (hd : decode (mC mi) pc = .ok (.iaload, 1)) (q0 : pI st fun i r => pR r fun a r => h.1.2.1 a = K ∧ vp_in i (h.1.2.2 a) ∧ Gx x p l e R s m args below meth c Qf mi (pc + 1) ls (.inl (h.2.1 K a i.toNatClampNeg) :: r) h bc bs) : Gx x p l e R s m args below meth c Qf mi pc ls st h bc bs := by
  obtain ⟨i, r, rfl, q1⟩ := pI_el q0
  obtain ⟨a, r, rfl, hk, hin, q⟩ := pR_el q1
  intro H locs cells slots la hl hr hS hc hs
  have hlt := in_lt hin
  simp only [Bool.or_eq_true, beq_iff_eq] at hK
  rcases hK with rfl | rfl
  · have ha := hr.scr hk
    subst ha
    obtain ⟨s1, s2, s3⟩ := hr.2.2.2.2.2.1
    have hb : tv x (.inr 1) = .ref x.2.2.1 := by rw [tv_nz (by decide), tr_one]
    rw [List.map_cons, List.map_cons, hb]
    exact W.iald (v := .int (h.2.1 19 1 i.toNatClampNeg)) F.1 F.2.1 s1 F.2.2.2.2.2.1.2.2.2.1 F.2.2.2.2.2.1.2.2.2.2 (by rw [s2]; exact hin) (s3 _ hlt) rfl rfl hd (q H locs cells slots la hl hr hS hc hs)
  · obtain ⟨a1, a2, hcl⟩ := hr.ai hk (Or.inl rfl)
    rw [List.map_cons, List.map_cons, tv_nz (show a ≠ 0 by omega)]
    exact W.iald (v := .int (h.2.1 20 a i.toNatClampNeg)) F.1 F.2.1 hcl (F.2.2.2.2.2.1.int.1 _ _) (fun q => by cases q) (by rw [arrV_size]; exact hin) (by rw [arrV_read _ _ hlt]) rfl rfl hd (q H locs cells slots la hl hr hS hc hs)
theorem g_bald (F : Fx x p R s m args meth c mi) (hd : decode (mC mi) pc = .ok (.baload, 1)) (q0 : pI st fun i r => pR r fun a r => h.1.2.1 a = 21 ∧ vp_in i (h.1.2.2 a) ∧ Gx x p l e R s m args below meth c Qf mi (pc + 1) ls (.inl (h.2.1 21 a i.toNatClampNeg) :: r) h bc bs) : Gx x p l e R s m args below meth c Qf mi pc ls st h bc bs := by
  obtain ⟨i, r, rfl, q1⟩ := pI_el q0
  obtain ⟨a, r, rfl, hk, hin, q⟩ := pR_el q1
  intro H locs cells slots la hl hr hS hc hs
  have hlt := in_lt hin
  obtain ⟨a1, a2, hcl⟩ := hr.ai hk (Or.inr rfl)
  rw [List.map_cons, List.map_cons, tv_nz (show a ≠ 0 by omega)]
  exact W.zald (v := .int (h.2.1 21 a i.toNatClampNeg)) F.1 F.2.1 hcl (F.2.2.2.2.2.1.bool.1 _ _) (fun q => by cases q) (by rw [arrV_size]; exact hin) (by rw [arrV_read _ _ hlt]) rfl rfl hd (q H locs cells slots la hl hr hS hc hs)
theorem g_aald (F : Fx x p R s m args meth c mi) {K : Nat} (hK : 30 < K) (hao : aoL.contains (K - 30) = true) (hd : decode (mC mi) pc = .ok (.aaload, 1)) (q0 : pI st fun i r => pR r fun a r => h.1.2.1 a = K ∧ vp_in i (h.1.2.2 a) ∧ Gx x p l e R s m args below meth c Qf mi (pc + 1) ls (.inr (h.2.2 K a i.toNatClampNeg) :: r) h bc bs) : Gx x p l e R s m args below meth c Qf mi pc ls st h bc bs := by
  obtain ⟨i, r, rfl, q1⟩ := pI_el q0
  obtain ⟨a, r, rfl, hk, hin, q⟩ := pR_el q1
  intro H locs cells slots la hl hr hS hc hs
  have hlt := in_lt hin
  obtain ⟨a1, a2, hcl⟩ := hr.ar hk hK
  have hA := F.2.2.2.2.2.1.arr (k := K - 30) (by simpa using hao)
  rw [show 30 + (K - 30) = K by omega] at hA
  rw [List.map_cons, List.map_cons, tv_nz (show a ≠ 0 by omega)]
  exact W.aald (v := tv x (.inr (h.2.2 K a i.toNatClampNeg))) (ty := .object (kN (K - 30))) F.1 F.2.1 hcl (hA.1 _ _) rfl (fun q => by cases q) (by rw [arrV_size]; exact hin) (by rw [arrV_read _ _ hlt]) rfl rfl hd (q H locs cells slots la hl hr hS hc hs)
theorem g_alen (F : Fx x p R s m args meth c mi) (hd : decode (mC mi) pc = .ok (.arraylength, 1)) (q0 : pR st fun a r => h.1.2.1 a = 19 ∧ Gx x p l e R s m args below meth c Qf mi (pc + 1) ls (.inl (Int32.ofNat (h.1.2.2 a)) :: r) h bc bs) : Gx x p l e R s m args below meth c Qf mi pc ls st h bc bs := by
  obtain ⟨a, r, rfl, hk, q⟩ := pR_el q0
  intro H locs cells slots la hl hr hS hc hs
  have ha := hr.scr hk
  subst ha
  obtain ⟨s1, s2, s3⟩ := hr.2.2.2.2.2.1
  have hb : tv x (.inr 1) = .ref x.2.2.1 := by rw [tv_nz (by decide), tr_one]
  rw [List.map_cons, hb]
  exact W.alen (n := Int32.ofNat (h.1.2.2 1)) F.1 F.2.1 s1 F.2.2.2.2.2.1.2.2.2.1 (by rw [s2] <;> rfl) rfl rfl hd (q H locs cells slots la hl hr hS hc hs)
theorem g_iast (F : Fx x p R s m args meth c mi) (hd : decode (mC mi) pc = .ok (.iastore, 1)) (q0 : pI st fun v r => pI r fun i r => pR r fun a r => h.1.2.1 a = 20 ∧ vp_in i (h.1.2.2 a) ∧ Gx x p l e R s m args below meth c Qf mi (pc + 1) ls r (h.1, u3 h.2.1 20 a i.toNatClampNeg v, h.2.2) bc bs) : Gx x p l e R s m args below meth c Qf mi pc ls st h bc bs := by
  obtain ⟨v, r, rfl, q1⟩ := pI_el q0
  obtain ⟨i, r, rfl, q2⟩ := pI_el q1
  obtain ⟨a, r, rfl, hk, hin, q⟩ := pR_el q2
  intro H locs cells slots la hl hr hS hc hs
  obtain ⟨a1, a2, hcl⟩ := hr.ai hk (Or.inl rfl)
  rw [List.map_cons, List.map_cons, List.map_cons, tv_nz (show a ≠ 0 by omega)]
  refine W.iast F.1 F.2.1 hcl (F.2.2.2.2.2.1.int.1 _ _) (fun q => by cases q) (by rw [arrV_size]; exact hin) rfl rfl hd fun H' e1 e2 e3 => ?_
  refine q H' _ cells slots la hl (hr.upd a1 a2 e2 e3 rfl (fun K k j hne => ⟨u3_ne hne, rfl⟩) ?_) (hS.put e2 e3 (by show x.2.2.2.1 ≤ tr x a; rw [tr_ge a1]; omega)) hc hs
  unfold cellAt
  dsimp only
  rw [hk]
  refine ⟨fun z => by omega, fun _ => ?_, fun z => by omega⟩
  rw [e1, arrV_store]
  congr 2
  funext j
  unfold updV u3
  by_cases e : j = i.toNatClampNeg
  · rw [if_pos e, if_pos ⟨rfl, rfl, e⟩]
  · rw [if_neg e, if_neg (fun z => e z.2.2)]
theorem g_bast (F : Fx x p R s m args meth c mi) (hd : decode (mC mi) pc = .ok (.bastore, 1)) (q0 : pI st fun v r => pI r fun i r => pR r fun a r => h.1.2.1 a = 21 ∧ vp_in i (h.1.2.2 a) ∧ (v = 0 ∨ v = 1) ∧ Gx x p l e R s m args below meth c Qf mi (pc + 1) ls r (h.1, u3 h.2.1 21 a i.toNatClampNeg v, h.2.2) bc bs) : Gx x p l e R s m args below meth c Qf mi pc ls st h bc bs := by
  obtain ⟨v, r, rfl, q1⟩ := pI_el q0
  obtain ⟨i, r, rfl, q2⟩ := pI_el q1
  obtain ⟨a, r, rfl, hk, hin, hv, q⟩ := pR_el q2
  intro H locs cells slots la hl hr hS hc hs
  obtain ⟨a1, a2, hcl⟩ := hr.ai hk (Or.inr rfl)
  rw [List.map_cons, List.map_cons, List.map_cons, tv_nz (show a ≠ 0 by omega)]
  refine W.zast F.1 F.2.1 hcl (F.2.2.2.2.2.1.bool.1 _ _) (fun q => by cases q) (by rw [arrV_size]; exact hin) rfl rfl hd fun H' e1 e2 e3 => ?_
  refine q H' _ cells slots la hl (hr.upd a1 a2 e2 e3 rfl (fun K k j hne => ⟨u3_ne hne, rfl⟩) ?_) (hS.put e2 e3 (by show x.2.2.2.1 ≤ tr x a; rw [tr_ge a1]; omega)) hc hs
  have hnv : narrow .boolean (.int v) = .int v := by rcases hv with rfl | rfl <;> rfl
  unfold cellAt
  dsimp only
  rw [hk]
  refine ⟨fun z => by omega, fun _ => ?_, fun z => by omega⟩
  rw [e1, arrV_store, hnv]
  congr 2
  funext j
  unfold updV u3
  by_cases e : j = i.toNatClampNeg
  · rw [if_pos e, if_pos ⟨rfl, rfl, e⟩]
  · rw [if_neg e, if_neg (fun z => e z.2.2)]
theorem g_aast (F : Fx x p R s m args meth c mi) {K : Nat} (hK : 30 < K) (hao : aoL.contains (K - 30) = true) (hd : decode (mC mi) pc = .ok (.aastore, 1)) (q0 : pR st fun v r => pI r fun i r => pR r fun a r => h.1.2.1 a = K ∧ h.1.2.1 v + 30 = K ∧ vp_in i (h.1.2.2 a) ∧ Gx x p l e R s m args below meth c Qf mi (pc + 1) ls r (h.1, h.2.1, u3 h.2.2 K a i.toNatClampNeg v) bc bs) : Gx x p l e R s m args below meth c Qf mi pc ls st h bc bs := by
  obtain ⟨v, r, rfl, q1⟩ := pR_el q0
  obtain ⟨i, r, rfl, q2⟩ := pI_el q1
  obtain ⟨a, r, rfl, hk, hkv, hin, q⟩ := pR_el q2
  intro H locs cells slots la hl hr hS hc hs
  have hmem : K - 30 ∈ aoL := by simpa using hao
  have h12 : K - 30 ≤ 12 := by
    have : ∀ k ∈ aoL, k ≤ 12 := by decide
    exact this _ hmem
  obtain ⟨a1, a2, hcl⟩ := hr.ar hk hK
  obtain ⟨v1, v2, cell, q1, q2, q3, q4⟩ := hr.ob (a := v) (c := K - 30) (by omega) (by omega) h12
  have hA := F.2.2.2.2.2.1.arr hmem
  rw [show 30 + (K - 30) = K by omega] at hA
  obtain ⟨kA, comp, f1, f2, f3, f4⟩ := hA.2
  obtain ⟨-, hfc, kC, hkC, hkind⟩ := F.2.2.2.2.2.1.1.1 (K - 30 - 1) _ (vw_at (K - 30) (by omega) h12)
  have hcomp : comp = x.1.1 (K - 30 - 1) := Option.some.inj (f3.symm.trans hfc)
  rw [List.map_cons, List.map_cons, List.map_cons, tv_nz (show a ≠ 0 by omega), tv_nz (show v ≠ 0 by omega)]
  have hlt := in_lt hin
  refine W.aast F.1 F.2.1 hcl (fun q => by intro z; cases z) (fun q => by cases q) f1 f2 rfl (by rw [hcomp]; exact hkC) ⟨fun z => hin (Or.inl z), by rw [arrV_size]; exact hlt⟩ q1 (by rw [q3]; exact fun q z => by cases z) (by rw [q2]; exact hkC) (by rw [q2, hcomp]; exact va_assign ⟨hfc, kC, hkC, hkind⟩) rfl rfl hd fun H' e1 e2 e3 => ?_
  refine q H' _ cells slots la hl (hr.upd a1 a2 e2 e3 rfl (fun K k j hne => ⟨rfl, u3_ne hne⟩) ?_) (hS.put e2 e3 (by show x.2.2.2.1 ≤ tr x a; rw [tr_ge a1]; omega)) hc hs
  unfold cellAt
  dsimp only
  rw [hk]
  refine ⟨fun z => by omega, fun z => by omega, fun _ => ?_⟩
  rw [e1, arrV_store]
  congr 2
  funext j
  unfold updV u3
  by_cases e : j = i.toNatClampNeg
  · rw [if_pos e, if_pos ⟨rfl, rfl, e⟩, tv_nz (show v ≠ 0 by omega)]
  · rw [if_neg e, if_neg (fun z => e z.2.2)]
end HROWS
