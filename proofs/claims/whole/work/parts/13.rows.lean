theorem vw_at : ∀ c, 0 < c → c ≤ 12 → vwCl[c - 1]? = some (kN c, kT c, kF c) := by
  intro c h1 h2
  match c, h1, h2 with
  | 1, _, _ => rfl
  | 2, _, _ => rfl
  | 3, _, _ => rfl
  | 4, _, _ => rfl
  | 5, _, _ => rfl
  | 6, _, _ => rfl
  | 7, _, _ => rfl
  | 8, _, _ => rfl
  | 9, _, _ => rfl
  | 10, _, _ => rfl
  | 11, _, _ => rfl
  | 12, _, _ => rfl
  | c + 13, _, h => exact absurd h (by omega)
theorem ty_at : ∀ c, 0 < c → c ≤ 12 → ∀ k, k < kF c → parseFieldDescriptor (kT c k).2.2.1 = some (kY c k) := by
  intro c h1 h2
  match c, h1, h2 with
  | 1, _, _ => exact tyX0_ok
  | 2, _, _ => exact tyX1_ok
  | 3, _, _ => exact tyX2_ok
  | 4, _, _ => exact tyX3_ok
  | 5, _, _ => exact tyX4_ok
  | 6, _, _ => exact tyX5_ok
  | 7, _, _ => exact tyX6_ok
  | 8, _, _ => exact tyX7_ok
  | 9, _, _ => exact tyX8_ok
  | 10, _, _ => exact tyX9_ok
  | 11, _, _ => exact tyX10_ok
  | 12, _, _ => exact tyX11_ok
  | c + 13, _, h => exact absurd h (by omega)
theorem nm_at : ∀ c, 0 < c → c ≤ 12 → ∀ a, a < kF c → ∀ b, b < kF c → a ≠ b → (kT c a).2.1 ≠ (kT c b).2.1 := by
  intro c h1 h2
  match c, h1, h2 with
  | 1, _, _ => exact nmX0
  | 2, _, _ => exact nmX1
  | 3, _, _ => exact nmX2
  | 4, _, _ => exact nmX3
  | 5, _, _ => exact nmX4
  | 6, _, _ => exact nmX5
  | 7, _, _ => exact nmX6
  | 8, _, _ => exact nmX7
  | 9, _, _ => exact nmX8
  | 10, _, _ => exact nmX9
  | 11, _, _ => exact nmX10
  | 12, _, _ => exact nmX11
  | c + 13, _, h => exact absurd h (by omega)
theorem ft_dec : (List.range 12).all (fun c => (List.range (kF (c + 1))).all (fun j => (ft (c + 1) j == 0 && decide (kY (c + 1) j = .int)) || (ft (c + 1) j == 1 && decide (kY (c + 1) j = .boolean)) || (ft (c + 1) j == 2 && (kY (c + 1) j).isReference))) = true := by decide +kernel
theorem ft_at {c j : Nat} (h1 : 0 < c) (h2 : c ≤ 12) (hj : j < kF c) : (ft c j = 0 ∧ kY c j = .int) ∨ (ft c j = 1 ∧ kY c j = .boolean) ∨ (ft c j = 2 ∧ ((∃ n, kY c j = .object n) ∨ ∃ t, kY c j = .array t)) := by
  have h := List.all_eq_true.mp (List.all_eq_true.mp ft_dec (c - 1) (List.mem_range.mpr (by omega))) j (List.mem_range.mpr (by rw [Nat.sub_add_cancel h1]; exact hj))
  rw [Nat.sub_add_cancel h1] at h
  simp only [Bool.or_eq_true, Bool.and_eq_true, beq_iff_eq, decide_eq_true_eq] at h
  rcases h with (h | h) | h
  · exact Or.inl h
  · exact Or.inr (Or.inl h)
  · refine Or.inr (Or.inr ⟨h.1, ?_⟩)
    have h3 := h.2
    cases hy : kY c j with
    | object n => exact Or.inl ⟨n, rfl⟩
    | array t => exact Or.inr ⟨t, rfl⟩
    | _ => rw [hy] at h3; cases h3
theorem k_in {c : Nat} (h1 : 0 < c) (h2 : c ≤ 12) : (Cond.instantiable (kN c) (kF c) ∈ lw_good ∧ Cond.initialized (kN c) ∈ lw_good) ∧ ∀ w ∈ u_ws (kN c) (kT c) (kF c), w ∈ lw_good := by
  have h := List.all_eq_true.mp k_ok (c - 1) (List.mem_range.mpr (by omega))
  rw [Nat.sub_add_cancel h1] at h
  simp only [Bool.and_eq_true] at h
  exact ⟨⟨wIn_of h.1.1, wIn_of h.1.2⟩, fun w hw => wIn_of (List.all_eq_true.mp h.2 w hw)⟩
theorem fl_at {o i K j : Nat} (h : flT.contains (o, i, K, j) = true) : Cond.fieldLink (kN o) i (kT K j).1 (kT K j).2.1 (kT K j).2.2.1 ∈ lw_good ∧ 0 < K ∧ K ≤ 12 ∧ j < kF K := by
  have h1 := List.all_eq_true.mp fl_ok (o, i, K, j) (by simpa using h)
  unfold flW at h1
  simp only [Bool.and_eq_true, Nat.blt_eq, Nat.ble_eq] at h1
  exact ⟨wIn_of h1.1.1.1, h1.1.1.2, h1.1.2, h1.2⟩
theorem ml_at {o i k : Nat} (h : mlT.contains (o, i, k) = true) : Cond.methodLink (kN o) i (mY k) ∈ lw_good ∧ k < 119 := by
  have h1 := List.all_eq_true.mp ml_ok (o, i, k) (by simpa using h)
  simp only [Bool.and_eq_true, Nat.blt_eq] at h1
  exact ⟨wIn_of h1.1, h1.2⟩
theorem sp_at {o i k : Nat} (h : spT.contains (o, i, k) = true) : Cond.methodLink (kN o) i (spN k) ∈ lw_good ∧ 900 ≤ k ∧ k ≤ 904 := by
  have h1 := List.all_eq_true.mp sp_ok (o, i, k) (by simpa using h)
  simp only [Bool.and_eq_true, Nat.ble_eq] at h1
  exact ⟨wIn_of h1.1.1, h1.1.2, h1.2⟩
theorem cl_at {o i k : Nat} (h : clT.contains (o, i, k) = true) : Cond.classLink (kN o) i (kN k) ∈ lw_good ∧ 0 < k ∧ k ≤ 12 := by
  have h1 := List.all_eq_true.mp cl_ok (o, i, k) (by simpa using h)
  simp only [Bool.and_eq_true, Nat.blt_eq, Nat.ble_eq] at h1
  exact ⟨wIn_of h1.1.1, h1.1.2, h1.2⟩
theorem ct_at {o i : Nat} {v : Int32} (h : ctT.contains (o, i, v) = true) : Cond.constant (kN o) i v ∈ lw_good := wIn_of (List.all_eq_true.mp ct_ok (o, i, v) (by simpa using h))
theorem pI_el {st : List AV} {f : Int32 → List AV → Prop} (h : pI st f) : ∃ x r, st = .inl x :: r ∧ f x r := by
  unfold pI at h
  split at h
  · exact ⟨_, _, rfl, h⟩
  · exact h.elim
theorem pR_el {st : List AV} {f : Nat → List AV → Prop} (h : pR st f) : ∃ x r, st = .inr x :: r ∧ f x r := by
  unfold pR at h
  split at h
  · exact ⟨_, _, rfl, h⟩
  · exact h.elim
theorem pV_el {st : List AV} {f : AV → List AV → Prop} (h : pV st f) : ∃ x r, st = x :: r ∧ f x r := by
  unfold pV at h
  split at h
  · exact ⟨_, _, rfl, h⟩
  · exact h.elim
theorem lI_el {ls : List LV} {i : Nat} {f : Int32 → Prop} (h : lI ls i f) : ∃ x, ls[i]? = some (some (.inl x)) ∧ f x := by
  unfold lI at h
  split at h
  · exact ⟨_, by assumption, h⟩
  · exact h.elim
theorem lR_el {ls : List LV} {i : Nat} {f : Nat → Prop} (h : lR ls i f) : ∃ x, ls[i]? = some (some (.inr x)) ∧ f x := by
  unfold lR at h
  split at h
  · exact ⟨_, by assumption, h⟩
  · exact h.elim
theorem tv_nz {x : Cx} {a : Nat} (h : a ≠ 0) : tv x (.inr a) = .ref (tr x a) := if_neg h
def Fx (x : Cx) (p : Program) (R : Room) (s : State) (m : MethodId) (args : Array Value) (meth : Method) (c : Code) (mi : Nat) : Prop :=
  p.tables.exec = Jvm.exec ∧ c.code = mC mi ∧ c.maxLocals = mL mi ∧ s.vm.findClass (kN (mO mi)) = some m.cls ∧ (∀ w ∈ lw_good, w.before args s = true) ∧ KK x s ∧ ((mY mi).name = "<init>" → meth.name = "<init>") ∧ x.2.2.2.1 ≤ s.heap.size ∧ 1 ≤ R.frames ∧ 64 ≤ R.locals ∧ mi < 120
def Gx (x : Cx) (p : Program) (l : Launch) (e : Env) (R : Room) (s : State) (m : MethodId) (args : Array Value) (below : List Frame) (meth : Method) (c : Code) (Qf : State → Prop) (mi : Nat) : Kt := fun pc ls st h bc bs =>
  ∀ (H : Heap) (locs : List Loc) (cells slots : Nat) (la : Array Slot), LR x ls la (mL mi) → Rel x h H → va_S (fun q => x.2.2.2.1 ≤ q) s.heap H locs → cells + bc ≤ R.cells → slots + bs ≤ R.slots → W p l e R s m args below meth c H locs cells slots Qf (F0 m pc la (st.map (tv x)))
section ROWS
variable {x : Cx} {p : Program} {l : Launch} {e : Env} {R : Room} {s : State} {m : MethodId} {args : Array Value} {below : List Frame} {meth : Method} {c : Code} {Qf : State → Prop} {mi pc : Nat} {ls : List LV} {st : List AV} {h : AH} {bc bs : Nat}
theorem g_iload_n (F : Fx x p R s m args meth c mi) {k : Fin 4} {i : Nat} (hd : decode (mC mi) pc = .ok (.iload_n k, 1)) (hk : (k : Nat) = i) (q0 : lI ls i fun v => Gx x p l e R s m args below meth c Qf mi (pc + 1) ls (.inl v :: st) h bc bs) : Gx x p l e R s m args below meth c Qf mi pc ls st h bc bs := by
  obtain ⟨v, hv, q⟩ := lI_el q0
  intro H locs cells slots la hl hr hS hc hs
  exact lv_iload_n F.1 F.2.1 hd hk (hl.get hv) (q H locs cells slots la hl hr hS hc hs)
theorem g_iload (F : Fx x p R s m args meth c mi) {i : Nat} (hd : decode (mC mi) pc = .ok (.iload i, 2)) (q0 : lI ls i fun v => Gx x p l e R s m args below meth c Qf mi (pc + 2) ls (.inl v :: st) h bc bs) : Gx x p l e R s m args below meth c Qf mi pc ls st h bc bs := by
  obtain ⟨v, hv, q⟩ := lI_el q0
  intro H locs cells slots la hl hr hS hc hs
  exact lv_iload F.1 F.2.1 hd (hl.get hv) (q H locs cells slots la hl hr hS hc hs)
theorem g_aload_n (F : Fx x p R s m args meth c mi) {k : Fin 4} {i : Nat} (hd : decode (mC mi) pc = .ok (.aload_n k, 1)) (hk : (k : Nat) = i) (q0 : lR ls i fun v => Gx x p l e R s m args below meth c Qf mi (pc + 1) ls (.inr v :: st) h bc bs) : Gx x p l e R s m args below meth c Qf mi pc ls st h bc bs := by
  obtain ⟨v, hv, q⟩ := lR_el q0
  intro H locs cells slots la hl hr hS hc hs
  have q1 := q H locs cells slots la hl hr hS hc hs
  have hg := hl.get hv
  by_cases h0 : v = 0
  · subst h0
    exact lv_aload_nN F.1 F.2.1 hd hk hg q1
  · rw [List.map_cons, tv_nz h0] at q1
    rw [tv_nz h0] at hg
    exact lv_aload_n F.1 F.2.1 hd hk hg q1
theorem g_aload (F : Fx x p R s m args meth c mi) {i : Nat} (hd : decode (mC mi) pc = .ok (.aload i, 2)) (q0 : lR ls i fun v => Gx x p l e R s m args below meth c Qf mi (pc + 2) ls (.inr v :: st) h bc bs) : Gx x p l e R s m args below meth c Qf mi pc ls st h bc bs := by
  obtain ⟨v, hv, q⟩ := lR_el q0
  intro H locs cells slots la hl hr hS hc hs
  have q1 := q H locs cells slots la hl hr hS hc hs
  have hg := hl.get hv
  by_cases h0 : v = 0
  · subst h0
    exact lv_aloadN F.1 F.2.1 hd hg q1
  · rw [List.map_cons, tv_nz h0] at q1
    rw [tv_nz h0] at hg
    exact lv_aload F.1 F.2.1 hd hg q1
theorem g_istore_n (F : Fx x p R s m args meth c mi) {k : Fin 4} {i : Nat} (hd : decode (mC mi) pc = .ok (.istore_n k, 1)) (hk : (k : Nat) = i) (hi : i < mL mi) (q0 : pI st fun v r => Gx x p l e R s m args below meth c Qf mi (pc + 1) (ls.set i (some (.inl v))) r h bc bs) : Gx x p l e R s m args below meth c Qf mi pc ls st h bc bs := by
  obtain ⟨v, r, rfl, q⟩ := pI_el q0
  intro H locs cells slots la hl hr hS hc hs
  exact lv_istore_n F.1 F.2.1 hd hk hl.2 hi rfl (fun la' h' => q H locs cells slots la' (hl.set (v := .inl v) hi h') hr hS hc hs)
theorem g_istore (F : Fx x p R s m args meth c mi) {i : Nat} (hd : decode (mC mi) pc = .ok (.istore i, 2)) (hi : i < mL mi) (q0 : pI st fun v r => Gx x p l e R s m args below meth c Qf mi (pc + 2) (ls.set i (some (.inl v))) r h bc bs) : Gx x p l e R s m args below meth c Qf mi pc ls st h bc bs := by
  obtain ⟨v, r, rfl, q⟩ := pI_el q0
  intro H locs cells slots la hl hr hS hc hs
  exact lv_istore F.1 F.2.1 hd hl.2 hi rfl (fun la' h' => q H locs cells slots la' (hl.set (v := .inl v) hi h') hr hS hc hs)
theorem g_astore_n (F : Fx x p R s m args meth c mi) {k : Fin 4} {i : Nat} (hd : decode (mC mi) pc = .ok (.astore_n k, 1)) (hk : (k : Nat) = i) (hi : i < mL mi) (q0 : pR st fun v r => Gx x p l e R s m args below meth c Qf mi (pc + 1) (ls.set i (some (.inr v))) r h bc bs) : Gx x p l e R s m args below meth c Qf mi pc ls st h bc bs := by
  obtain ⟨v, r, rfl, q⟩ := pR_el q0
  intro H locs cells slots la hl hr hS hc hs
  by_cases h0 : v = 0
  · subst h0
    exact lv_astore_nN F.1 F.2.1 hd hk hl.2 hi rfl (fun la' h' => q H locs cells slots la' (hl.set (v := .inr 0) hi h') hr hS hc hs)
  · rw [List.map_cons, tv_nz h0]
    exact lv_astore_n F.1 F.2.1 hd hk hl.2 hi rfl (fun la' h' => q H locs cells slots la' (hl.set (v := .inr v) hi (by rw [tv_nz h0]; exact h')) hr hS hc hs)
theorem g_astore (F : Fx x p R s m args meth c mi) {i : Nat} (hd : decode (mC mi) pc = .ok (.astore i, 2)) (hi : i < mL mi) (q0 : pR st fun v r => Gx x p l e R s m args below meth c Qf mi (pc + 2) (ls.set i (some (.inr v))) r h bc bs) : Gx x p l e R s m args below meth c Qf mi pc ls st h bc bs := by
  obtain ⟨v, r, rfl, q⟩ := pR_el q0
  intro H locs cells slots la hl hr hS hc hs
  by_cases h0 : v = 0
  · subst h0
    exact lv_astoreN F.1 F.2.1 hd hl.2 hi rfl (fun la' h' => q H locs cells slots la' (hl.set (v := .inr 0) hi h') hr hS hc hs)
  · rw [List.map_cons, tv_nz h0]
    exact lv_astore F.1 F.2.1 hd hl.2 hi rfl (fun la' h' => q H locs cells slots la' (hl.set (v := .inr v) hi (by rw [tv_nz h0]; exact h')) hr hS hc hs)
theorem g_iinc (F : Fx x p R s m args meth c mi) {i : Nat} {n : Int} {w : Int32} (hd : decode (mC mi) pc = .ok (.iinc i n, 3)) (hw : Int32.ofInt n = w) (hi : i < mL mi) (q0 : lI ls i fun v => Gx x p l e R s m args below meth c Qf mi (pc + 3) (ls.set i (some (.inl (v + w)))) st h bc bs) : Gx x p l e R s m args below meth c Qf mi pc ls st h bc bs := by
  obtain ⟨v, hv, q⟩ := lI_el q0
  intro H locs cells slots la hl hr hS hc hs
  obtain ⟨k, hk⟩ := List.getElem?_of_mem ((lvL_mem x ls 0 i (.int v)).mpr ⟨.inl v, Nat.zero_le _, by simpa using hv, rfl⟩)
  exact lv_iinc F.1 F.2.1 hd hl.2 hk (by rw [hw]) hi rfl (fun la' h' => q H locs cells slots la' (hl.set (v := .inl (v + w)) hi h') hr hS hc hs)
theorem g_iconst (F : Fx x p R s m args meth c mi) {n : Int} {w : Int32} (hd : decode (mC mi) pc = .ok (.iconst n, 1)) (hw : Int32.ofInt n = w) (q0 : Gx x p l e R s m args below meth c Qf mi (pc + 1) ls (.inl w :: st) h bc bs) : Gx x p l e R s m args below meth c Qf mi pc ls st h bc bs :=
  fun H locs cells slots la hl hr hS hc hs => lv_iconst F.1 F.2.1 hd hw (q0 H locs cells slots la hl hr hS hc hs)
theorem g_bipush (F : Fx x p R s m args meth c mi) {n : Int} {w : Int32} (hd : decode (mC mi) pc = .ok (.bipush n, 2)) (hw : (Int8.ofInt n).toInt32 = w) (q0 : Gx x p l e R s m args below meth c Qf mi (pc + 2) ls (.inl w :: st) h bc bs) : Gx x p l e R s m args below meth c Qf mi pc ls st h bc bs :=
  fun H locs cells slots la hl hr hS hc hs => lv_bipush F.1 F.2.1 hd hw (q0 H locs cells slots la hl hr hS hc hs)
theorem g_sipush (F : Fx x p R s m args meth c mi) {n : Int} {w : Int32} (hd : decode (mC mi) pc = .ok (.sipush n, 3)) (hw : (Int16.ofInt n).toInt32 = w) (q0 : Gx x p l e R s m args below meth c Qf mi (pc + 3) ls (.inl w :: st) h bc bs) : Gx x p l e R s m args below meth c Qf mi pc ls st h bc bs :=
  fun H locs cells slots la hl hr hS hc hs => lv_sipush F.1 F.2.1 hd hw (q0 H locs cells slots la hl hr hS hc hs)
theorem g_ldc (F : Fx x p R s m args meth c mi) {i : Nat} {w : Int32} (hd : decode (mC mi) pc = .ok (.ldc i, 2)) (hw : ctT.contains (mO mi, i, w) = true) (q0 : Gx x p l e R s m args below meth c Qf mi (pc + 2) ls (.inl w :: st) h bc bs) : Gx x p l e R s m args below meth c Qf mi pc ls st h bc bs :=
  fun H locs cells slots la hl hr hS hc hs => lv_ldc F.1 F.2.1 F.2.2.2.1 (F.2.2.2.2.1 _ (ct_at hw)) hd (q0 H locs cells slots la hl hr hS hc hs)
theorem g_null (F : Fx x p R s m args meth c mi) (hd : decode (mC mi) pc = .ok (.aconst_null, 1)) (q0 : Gx x p l e R s m args below meth c Qf mi (pc + 1) ls (.inr 0 :: st) h bc bs) : Gx x p l e R s m args below meth c Qf mi pc ls st h bc bs :=
  fun H locs cells slots la hl hr hS hc hs => lv_null F.1 F.2.1 hd (q0 H locs cells slots la hl hr hS hc hs)
theorem g_iadd (F : Fx x p R s m args meth c mi) (hd : decode (mC mi) pc = .ok (.iadd, 1)) (q0 : pI st fun y r => pI r fun v r => Gx x p l e R s m args below meth c Qf mi (pc + 1) ls (.inl (v + y) :: r) h bc bs) : Gx x p l e R s m args below meth c Qf mi pc ls st h bc bs := by
  obtain ⟨y, r, rfl, q1⟩ := pI_el q0
  obtain ⟨v, r, rfl, q⟩ := pI_el q1
  exact fun H locs cells slots la hl hr hS hc hs => lv_iadd F.1 F.2.1 hd (q H locs cells slots la hl hr hS hc hs)
theorem g_isub (F : Fx x p R s m args meth c mi) (hd : decode (mC mi) pc = .ok (.isub, 1)) (q0 : pI st fun y r => pI r fun v r => Gx x p l e R s m args below meth c Qf mi (pc + 1) ls (.inl (v - y) :: r) h bc bs) : Gx x p l e R s m args below meth c Qf mi pc ls st h bc bs := by
  obtain ⟨y, r, rfl, q1⟩ := pI_el q0
  obtain ⟨v, r, rfl, q⟩ := pI_el q1
  exact fun H locs cells slots la hl hr hS hc hs => lv_isub F.1 F.2.1 hd (q H locs cells slots la hl hr hS hc hs)
theorem g_imul (F : Fx x p R s m args meth c mi) (hd : decode (mC mi) pc = .ok (.imul, 1)) (q0 : pI st fun y r => pI r fun v r => Gx x p l e R s m args below meth c Qf mi (pc + 1) ls (.inl (v * y) :: r) h bc bs) : Gx x p l e R s m args below meth c Qf mi pc ls st h bc bs := by
  obtain ⟨y, r, rfl, q1⟩ := pI_el q0
  obtain ⟨v, r, rfl, q⟩ := pI_el q1
  exact fun H locs cells slots la hl hr hS hc hs => lv_imul F.1 F.2.1 hd (q H locs cells slots la hl hr hS hc hs)
theorem g_iand (F : Fx x p R s m args meth c mi) (hd : decode (mC mi) pc = .ok (.iand, 1)) (q0 : pI st fun y r => pI r fun v r => Gx x p l e R s m args below meth c Qf mi (pc + 1) ls (.inl (v &&& y) :: r) h bc bs) : Gx x p l e R s m args below meth c Qf mi pc ls st h bc bs := by
  obtain ⟨y, r, rfl, q1⟩ := pI_el q0
  obtain ⟨v, r, rfl, q⟩ := pI_el q1
  exact fun H locs cells slots la hl hr hS hc hs => lv_iand F.1 F.2.1 hd (q H locs cells slots la hl hr hS hc hs)
theorem g_idiv (F : Fx x p R s m args meth c mi) (hd : decode (mC mi) pc = .ok (.idiv, 1)) (q0 : pI st fun y r => pI r fun v r => ¬ y = 0 ∧ Gx x p l e R s m args below meth c Qf mi (pc + 1) ls (.inl (v / y) :: r) h bc bs) : Gx x p l e R s m args below meth c Qf mi pc ls st h bc bs := by
  obtain ⟨y, r, rfl, q1⟩ := pI_el q0
  obtain ⟨v, r, rfl, h0, q⟩ := pI_el q1
  exact fun H locs cells slots la hl hr hS hc hs => lv_idiv F.1 F.2.1 hd h0 (q H locs cells slots la hl hr hS hc hs)
theorem g_irem (F : Fx x p R s m args meth c mi) (hd : decode (mC mi) pc = .ok (.irem, 1)) (q0 : pI st fun y r => pI r fun v r => ¬ y = 0 ∧ Gx x p l e R s m args below meth c Qf mi (pc + 1) ls (.inl (rmd v y) :: r) h bc bs) : Gx x p l e R s m args below meth c Qf mi pc ls st h bc bs := by
  obtain ⟨y, r, rfl, q1⟩ := pI_el q0
  obtain ⟨v, r, rfl, h0, q⟩ := pI_el q1
  exact fun H locs cells slots la hl hr hS hc hs => lv_irem F.1 F.2.1 hd h0 (q H locs cells slots la hl hr hS hc hs)
theorem g_icmp (F : Fx x p R s m args meth c mi) {o : Int} {t : Nat} (ht : (pc : Int) + o = (t : Int)) :
    (decode (mC mi) pc = .ok (.if_icmp .eq o, 3) → (pI st fun y r => pI r fun v r => if v = y then Gx x p l e R s m args below meth c Qf mi t ls r h bc bs else Gx x p l e R s m args below meth c Qf mi (pc + 3) ls r h bc bs) → Gx x p l e R s m args below meth c Qf mi pc ls st h bc bs) ∧
    (decode (mC mi) pc = .ok (.if_icmp .ne o, 3) → (pI st fun y r => pI r fun v r => if v = y then Gx x p l e R s m args below meth c Qf mi (pc + 3) ls r h bc bs else Gx x p l e R s m args below meth c Qf mi t ls r h bc bs) → Gx x p l e R s m args below meth c Qf mi pc ls st h bc bs) ∧
    (decode (mC mi) pc = .ok (.if_icmp .lt o, 3) → (pI st fun y r => pI r fun v r => if v < y then Gx x p l e R s m args below meth c Qf mi t ls r h bc bs else Gx x p l e R s m args below meth c Qf mi (pc + 3) ls r h bc bs) → Gx x p l e R s m args below meth c Qf mi pc ls st h bc bs) ∧
    (decode (mC mi) pc = .ok (.if_icmp .ge o, 3) → (pI st fun y r => pI r fun v r => if y ≤ v then Gx x p l e R s m args below meth c Qf mi t ls r h bc bs else Gx x p l e R s m args below meth c Qf mi (pc + 3) ls r h bc bs) → Gx x p l e R s m args below meth c Qf mi pc ls st h bc bs) ∧
    (decode (mC mi) pc = .ok (.if_icmp .gt o, 3) → (pI st fun y r => pI r fun v r => if y < v then Gx x p l e R s m args below meth c Qf mi t ls r h bc bs else Gx x p l e R s m args below meth c Qf mi (pc + 3) ls r h bc bs) → Gx x p l e R s m args below meth c Qf mi pc ls st h bc bs) ∧
    (decode (mC mi) pc = .ok (.if_icmp .le o, 3) → (pI st fun y r => pI r fun v r => if v ≤ y then Gx x p l e R s m args below meth c Qf mi t ls r h bc bs else Gx x p l e R s m args below meth c Qf mi (pc + 3) ls r h bc bs) → Gx x p l e R s m args below meth c Qf mi pc ls st h bc bs) := by
  refine ⟨fun hd q0 => ?_, fun hd q0 => ?_, fun hd q0 => ?_, fun hd q0 => ?_, fun hd q0 => ?_, fun hd q0 => ?_⟩ <;>
    (obtain ⟨y, r, rfl, q1⟩ := pI_el q0
     obtain ⟨v, r, rfl, q⟩ := pI_el q1
     intro H locs cells slots la hl hr hS hc hs)
  · exact lv_icmp_eq F.1 F.2.1 hd ht (fun z => by rw [if_pos z] at q; exact q H locs cells slots la hl hr hS hc hs) (fun z => by rw [if_neg z] at q; exact q H locs cells slots la hl hr hS hc hs)
  · exact lv_icmp_ne F.1 F.2.1 hd ht (fun z => by rw [if_neg z] at q; exact q H locs cells slots la hl hr hS hc hs) (fun z => by rw [if_pos z] at q; exact q H locs cells slots la hl hr hS hc hs)
  · exact lv_icmp_lt F.1 F.2.1 hd ht (fun z => by rw [if_pos z] at q; exact q H locs cells slots la hl hr hS hc hs) (fun z => by rw [if_neg z] at q; exact q H locs cells slots la hl hr hS hc hs)
  · exact lv_icmp_ge F.1 F.2.1 hd ht (fun z => by rw [if_pos z] at q; exact q H locs cells slots la hl hr hS hc hs) (fun z => by rw [if_neg z] at q; exact q H locs cells slots la hl hr hS hc hs)
  · exact lv_icmp_gt F.1 F.2.1 hd ht (fun z => by rw [if_pos z] at q; exact q H locs cells slots la hl hr hS hc hs) (fun z => by rw [if_neg z] at q; exact q H locs cells slots la hl hr hS hc hs)
  · exact lv_icmp_le F.1 F.2.1 hd ht (fun z => by rw [if_pos z] at q; exact q H locs cells slots la hl hr hS hc hs) (fun z => by rw [if_neg z] at q; exact q H locs cells slots la hl hr hS hc hs)
theorem g_if (F : Fx x p R s m args meth c mi) {o : Int} {t : Nat} (ht : (pc : Int) + o = (t : Int)) :
    (decode (mC mi) pc = .ok (.ifCond .eq o, 3) → (pI st fun v r => if v = 0 then Gx x p l e R s m args below meth c Qf mi t ls r h bc bs else Gx x p l e R s m args below meth c Qf mi (pc + 3) ls r h bc bs) → Gx x p l e R s m args below meth c Qf mi pc ls st h bc bs) ∧
    (decode (mC mi) pc = .ok (.ifCond .ne o, 3) → (pI st fun v r => if v = 0 then Gx x p l e R s m args below meth c Qf mi (pc + 3) ls r h bc bs else Gx x p l e R s m args below meth c Qf mi t ls r h bc bs) → Gx x p l e R s m args below meth c Qf mi pc ls st h bc bs) ∧
    (decode (mC mi) pc = .ok (.ifCond .lt o, 3) → (pI st fun v r => if v < 0 then Gx x p l e R s m args below meth c Qf mi t ls r h bc bs else Gx x p l e R s m args below meth c Qf mi (pc + 3) ls r h bc bs) → Gx x p l e R s m args below meth c Qf mi pc ls st h bc bs) ∧
    (decode (mC mi) pc = .ok (.ifCond .le o, 3) → (pI st fun v r => if v ≤ 0 then Gx x p l e R s m args below meth c Qf mi t ls r h bc bs else Gx x p l e R s m args below meth c Qf mi (pc + 3) ls r h bc bs) → Gx x p l e R s m args below meth c Qf mi pc ls st h bc bs) := by
  refine ⟨fun hd q0 => ?_, fun hd q0 => ?_, fun hd q0 => ?_, fun hd q0 => ?_⟩ <;>
    (obtain ⟨v, r, rfl, q⟩ := pI_el q0
     intro H locs cells slots la hl hr hS hc hs)
  · exact lv_if_eq F.1 F.2.1 hd ht (fun z => by rw [if_pos z] at q; exact q H locs cells slots la hl hr hS hc hs) (fun z => by rw [if_neg z] at q; exact q H locs cells slots la hl hr hS hc hs)
  · exact lv_if_ne F.1 F.2.1 hd ht (fun z => by rw [if_neg z] at q; exact q H locs cells slots la hl hr hS hc hs) (fun z => by rw [if_pos z] at q; exact q H locs cells slots la hl hr hS hc hs)
  · exact lv_if_lt F.1 F.2.1 hd ht (fun z => by rw [if_pos z] at q; exact q H locs cells slots la hl hr hS hc hs) (fun z => by rw [if_neg z] at q; exact q H locs cells slots la hl hr hS hc hs)
  · exact lv_if_le F.1 F.2.1 hd ht (fun z => by rw [if_pos z] at q; exact q H locs cells slots la hl hr hS hc hs) (fun z => by rw [if_neg z] at q; exact q H locs cells slots la hl hr hS hc hs)
theorem g_ifnull (F : Fx x p R s m args meth c mi) {o : Int} {t : Nat} (ht : (pc : Int) + o = (t : Int)) (hd : decode (mC mi) pc = .ok (.ifnull o, 3)) (q0 : pR st fun v r => if v = 0 then Gx x p l e R s m args below meth c Qf mi t ls r h bc bs else Gx x p l e R s m args below meth c Qf mi (pc + 3) ls r h bc bs) : Gx x p l e R s m args below meth c Qf mi pc ls st h bc bs := by
  obtain ⟨v, r, rfl, q⟩ := pR_el q0
  intro H locs cells slots la hl hr hS hc hs
  by_cases h0 : v = 0
  · rw [if_pos h0] at q
    subst h0
    exact lv_ifnullN F.1 F.2.1 hd ht (q H locs cells slots la hl hr hS hc hs)
  · rw [if_neg h0] at q
    rw [List.map_cons, tv_nz h0]
    exact lv_ifnull F.1 F.2.1 hd (q H locs cells slots la hl hr hS hc hs)
theorem g_ifnonnull (F : Fx x p R s m args meth c mi) {o : Int} {t : Nat} (ht : (pc : Int) + o = (t : Int)) (hd : decode (mC mi) pc = .ok (.ifnonnull o, 3)) (q0 : pR st fun v r => if v = 0 then Gx x p l e R s m args below meth c Qf mi (pc + 3) ls r h bc bs else Gx x p l e R s m args below meth c Qf mi t ls r h bc bs) : Gx x p l e R s m args below meth c Qf mi pc ls st h bc bs := by
  obtain ⟨v, r, rfl, q⟩ := pR_el q0
  intro H locs cells slots la hl hr hS hc hs
  by_cases h0 : v = 0
  · rw [if_pos h0] at q
    subst h0
    exact lv_ifnonnullN F.1 F.2.1 hd (q H locs cells slots la hl hr hS hc hs)
  · rw [if_neg h0] at q
    rw [List.map_cons, tv_nz h0]
    exact lv_ifnonnull F.1 F.2.1 hd ht (q H locs cells slots la hl hr hS hc hs)
theorem g_goto (F : Fx x p R s m args meth c mi) {o : Int} {t : Nat} (ht : (pc : Int) + o = (t : Int)) (hd : decode (mC mi) pc = .ok (.goto o, 3)) (q0 : Gx x p l e R s m args below meth c Qf mi t ls st h bc bs) : Gx x p l e R s m args below meth c Qf mi pc ls st h bc bs :=
  fun H locs cells slots la hl hr hS hc hs => lv_goto F.1 F.2.1 hd ht (q0 H locs cells slots la hl hr hS hc hs)
theorem g_dup (F : Fx x p R s m args meth c mi) (hd : decode (mC mi) pc = .ok (.dup, 1)) (q0 : pV st fun v r => Gx x p l e R s m args below meth c Qf mi (pc + 1) ls (v :: v :: r) h bc bs) : Gx x p l e R s m args below meth c Qf mi pc ls st h bc bs := by
  obtain ⟨v, r, rfl, q⟩ := pV_el q0
  exact fun H locs cells slots la hl hr hS hc hs => lv_dup F.1 F.2.1 hd (tv_cat x v) (q H locs cells slots la hl hr hS hc hs)
theorem g_dup2 (F : Fx x p R s m args meth c mi) (hd : decode (mC mi) pc = .ok (.dup2, 1)) (q0 : pV st fun v r => pV r fun w r => Gx x p l e R s m args below meth c Qf mi (pc + 1) ls (v :: w :: v :: w :: r) h bc bs) : Gx x p l e R s m args below meth c Qf mi pc ls st h bc bs := by
  obtain ⟨v, r, rfl, q1⟩ := pV_el q0
  obtain ⟨w, r, rfl, q⟩ := pV_el q1
  exact fun H locs cells slots la hl hr hS hc hs => lv_dup2_11 F.1 F.2.1 hd (tv_cat x v) (tv_cat x w) (q H locs cells slots la hl hr hS hc hs)
end ROWS
