def vkE (q : Nat × En) : Bool := match q.2 with
  | (.invokevirtual _, _, m', _, _) => !mSt m' && decide ((mY m').name ≠ "<init>")
  | (.invokestatic _, _, m', _, _) => Nat.ble 900 m' && Nat.ble m' 903 || mSt m'
  | (.tableswitch _ _ _ offs, _, _, _, _) => Nat.blt offs.size 1000
  | _ => true
def vkR (m : Nat) (q : Nat × En) : Bool := match q.2 with
  | (.areturn, _, _, _, _) => (match mR m with | some (.object _) => true | _ => false)
  | (.return_, _, _, _, _) => decide (mR m = none)
  | _ => true
theorem vr_ok : (List.range 120).all (fun m => (tb m).all (vkR m)) = true := by decide +kernel
theorem vr_at {m pc : Nat} (hm : m < 120) {e : En} (h : look m pc = some e) : vkR m (pc, e) = true := List.all_eq_true.mp (List.all_eq_true.mp vr_ok m (List.mem_range.mpr hm)) _ (lkl_mem _ _ _ h)
theorem vk_ok : (List.range 120).all (fun m => (tb m).all vkE) = true := by decide +kernel
theorem vk_at {m pc : Nat} (hm : m < 120) {e : En} (h : look m pc = some e) : vkE (pc, e) = true := List.all_eq_true.mp (List.all_eq_true.mp vk_ok m (List.mem_range.mpr hm)) _ (lkl_mem _ _ _ h)
section SOUND
variable {x : Cx} {p : Program} {l : Launch} {e : Env} {R : Room} {s : State} {m : MethodId} {args : Array Value} {below : List Frame} {meth : Method} {c : Code} {Qf : State → Prop} {mi d : Nat} {CE : Ce} {Q : Rt}
def RetI (x : Cx) (p : Program) (l : Launch) (e : Env) (R : Room) (s : State) (m : MethodId) (args : Array Value) (below : List Frame) (meth : Method) (c : Code) (Qf : State → Prop) (mi : Nat) (Q : Rt) : Prop :=
  (∀ (z : Int32) (h : AH) (H : Heap) (locs : List Loc) (cells slots : Nat) (la : Array Slot) (pc : Nat), Q (some (.inl z)) h → (mR mi = some .int ∨ mR mi = some .boolean ∧ (z = 0 ∨ z = 1)) → Rel x h H → va_S (fun q => x.2.2.2.1 ≤ q) s.heap H locs → cells ≤ R.cells → slots ≤ R.slots → decode (mC mi) pc = .ok (.ireturn, 1) → W p l e R s m args below meth c H locs cells slots Qf (F0 m pc la [.int z])) ∧
  (∀ (a : Nat) (h : AH) (H : Heap) (locs : List Loc) (cells slots : Nat) (la : Array Slot) (pc : Nat), Q (some (.inr a)) h → (∃ rt, mR mi = some rt ∧ ((∃ n, rt = .object n) ∨ ∃ t, rt = .array t)) → Rel x h H → va_S (fun q => x.2.2.2.1 ≤ q) s.heap H locs → cells ≤ R.cells → slots ≤ R.slots → decode (mC mi) pc = .ok (.areturn, 1) → W p l e R s m args below meth c H locs cells slots Qf (F0 m pc la [tv x (.inr a)])) ∧
  (∀ (h : AH) (H : Heap) (locs : List Loc) (cells slots : Nat) (la : Array Slot) (pc : Nat), Q none h → mR mi = none → Rel x h H → va_S (fun q => x.2.2.2.1 ≤ q) s.heap H locs → cells ≤ R.cells → slots ≤ R.slots → decode (mC mi) pc = .ok (.return_, 1) → W p l e R s m args below meth c H locs cells slots Qf (F0 m pc la []))
set_option maxHeartbeats 4000000 in
theorem clo (F : Fx x p R s m args meth c mi) (hC : CeS x l d CE) (hd1 : d + 1 ≤ R.frames) (hd2 : 64 * (d + 1) ≤ R.locals) (hR : RetI x p l e R s m args below meth c Qf mi Q) : ∀ pc ls st h bc bs, stp CE (Gx x p l e R s m args below meth c Qf mi) Q (mR mi) (look mi pc) pc ls st h bc bs → Gx x p l e R s m args below meth c Qf mi pc ls st h bc bs := by
  intro pc ls st h bc bs q
  have hmi : mi < 120 := F.2.2.2.2.2.2.2.2.2.2
  cases hlk : look mi pc with
  | none => rw [hlk] at q; exact False.elim q
  | some en =>
    have hvk := vk_at hmi hlk
    have hvr := vr_at hmi hlk
    obtain ⟨ins, n, a, b, v⟩ := en
    rw [hlk] at q
    obtain ⟨hd, hok⟩ := look_ok hmi hlk
    cases ins with
    | aload_n k =>
      simp only [okE, Bool.and_eq_true, beq_iff_eq] at hok
      obtain ⟨⟨rfl, h2⟩, -⟩ := hok
      exact g_aload_n F hd h2 q
    | aload i =>
      simp only [okE, Bool.and_eq_true, beq_iff_eq] at hok
      obtain ⟨⟨rfl, rfl⟩, -⟩ := hok
      exact g_aload F hd q
    | iload_n k =>
      simp only [okE, Bool.and_eq_true, beq_iff_eq] at hok
      obtain ⟨⟨rfl, h2⟩, -⟩ := hok
      exact g_iload_n F hd h2 q
    | iload i =>
      simp only [okE, Bool.and_eq_true, beq_iff_eq] at hok
      obtain ⟨⟨rfl, rfl⟩, -⟩ := hok
      exact g_iload F hd q
    | astore_n k =>
      simp only [okE, Bool.and_eq_true, beq_iff_eq, Nat.blt_eq] at hok
      obtain ⟨⟨rfl, h2⟩, h3⟩ := hok
      exact g_astore_n F hd h2 h3 q
    | astore i =>
      simp only [okE, Bool.and_eq_true, beq_iff_eq, Nat.blt_eq] at hok
      obtain ⟨⟨rfl, rfl⟩, h3⟩ := hok
      exact g_astore F hd h3 q
    | istore_n k =>
      simp only [okE, Bool.and_eq_true, beq_iff_eq, Nat.blt_eq] at hok
      obtain ⟨⟨rfl, h2⟩, h3⟩ := hok
      exact g_istore_n F hd h2 h3 q
    | istore i =>
      simp only [okE, Bool.and_eq_true, beq_iff_eq, Nat.blt_eq] at hok
      obtain ⟨⟨rfl, rfl⟩, h3⟩ := hok
      exact g_istore F hd h3 q
    | iconst i =>
      simp only [okE, Bool.and_eq_true, beq_iff_eq] at hok
      obtain ⟨rfl, h2⟩ := hok
      exact g_iconst F hd h2 q
    | bipush i =>
      simp only [okE, Bool.and_eq_true, beq_iff_eq] at hok
      obtain ⟨rfl, h2⟩ := hok
      exact g_bipush F hd h2 q
    | sipush i =>
      simp only [okE, Bool.and_eq_true, beq_iff_eq] at hok
      obtain ⟨rfl, h2⟩ := hok
      exact g_sipush F hd h2 q
    | ldc i =>
      simp only [okE, Bool.and_eq_true, beq_iff_eq] at hok
      obtain ⟨rfl, h2⟩ := hok
      exact g_ldc F hd h2 q
    | iinc i k =>
      simp only [okE, Bool.and_eq_true, beq_iff_eq, Nat.blt_eq] at hok
      obtain ⟨⟨⟨rfl, rfl⟩, h2⟩, h3⟩ := hok
      exact g_iinc F hd h2 h3 q
    | if_icmp cc o =>
      simp only [okE, Bool.and_eq_true, beq_iff_eq] at hok
      obtain ⟨rfl, h2⟩ := hok
      have g := g_icmp (l := l) (e := e) (below := below) (Qf := Qf) (ls := ls) (st := st) (h := h) (bc := bc) (bs := bs) F h2
      cases cc with
      | eq => exact g.1 hd q
      | ne => exact g.2.1 hd q
      | lt => exact g.2.2.1 hd q
      | ge => exact g.2.2.2.1 hd q
      | gt => exact g.2.2.2.2.1 hd q
      | le => exact g.2.2.2.2.2 hd q
    | ifCond cc o =>
      simp only [okE, Bool.and_eq_true, beq_iff_eq] at hok
      obtain ⟨rfl, h2⟩ := hok
      have g := g_if (l := l) (e := e) (below := below) (Qf := Qf) (ls := ls) (st := st) (h := h) (bc := bc) (bs := bs) F h2
      cases cc with
      | eq => exact g.1 hd q
      | ne => exact g.2.1 hd q
      | lt => exact g.2.2.1 hd q
      | ge => exact False.elim q
      | gt => exact False.elim q
      | le => exact g.2.2.2 hd q
    | ifnull o =>
      simp only [okE, Bool.and_eq_true, beq_iff_eq] at hok
      obtain ⟨rfl, h2⟩ := hok
      exact g_ifnull F h2 hd q
    | ifnonnull o =>
      simp only [okE, Bool.and_eq_true, beq_iff_eq] at hok
      obtain ⟨rfl, h2⟩ := hok
      exact g_ifnonnull F h2 hd q
    | goto o =>
      simp only [okE, Bool.and_eq_true, beq_iff_eq] at hok
      obtain ⟨rfl, h2⟩ := hok
      exact g_goto F h2 hd q
    | getfield i =>
      simp only [okE, Bool.and_eq_true, beq_iff_eq] at hok
      obtain ⟨rfl, h2⟩ := hok
      exact g_get F hd h2 q
    | putfield i =>
      have hok : (n == 3 && flT.contains (mO mi, i, a, b) && (!isFin a b || ((mY mi).name == "<init>" && (kT a b).1 == kN (mO mi)))) = true := hok
      rw [Bool.and_eq_true, Bool.and_eq_true, beq_iff_eq] at hok
      obtain ⟨⟨rfl, h2⟩, h3⟩ := hok
      exact g_put F hd h2 h3 q
    | new i =>
      simp only [okE, Bool.and_eq_true, beq_iff_eq] at hok
      obtain ⟨rfl, h2⟩ := hok
      exact g_new F hd h2 q
    | newarray t =>
      have hok : (n == 2 && ((t == .int && a == 20) || (t == .boolean && a == 21))) = true := hok
      rw [Bool.and_eq_true, beq_iff_eq] at hok
      obtain ⟨rfl, h2⟩ := hok
      exact g_newa F hd h2 q
    | anewarray i =>
      simp only [okE, Bool.and_eq_true, beq_iff_eq, Nat.blt_eq] at hok
      obtain ⟨⟨⟨rfl, h2⟩, h3⟩, h4⟩ := hok
      exact g_anew F hd h3 h2 h4 q
    | iaload =>
      have hok : (n == 1 && (a == 19 || a == 20)) = true := hok
      rw [Bool.and_eq_true, beq_iff_eq] at hok
      obtain ⟨rfl, h2⟩ := hok
      exact g_iald F h2 hd q
    | iastore =>
      simp only [okE, Bool.and_eq_true, beq_iff_eq] at hok
      obtain ⟨rfl, rfl⟩ := hok
      exact g_iast F hd q
    | baload =>
      simp only [okE, Bool.and_eq_true, beq_iff_eq] at hok
      obtain ⟨rfl, rfl⟩ := hok
      exact g_bald F hd q
    | bastore =>
      simp only [okE, Bool.and_eq_true, beq_iff_eq] at hok
      obtain ⟨rfl, rfl⟩ := hok
      exact g_bast F hd q
    | aaload =>
      simp only [okE, Bool.and_eq_true, beq_iff_eq, Nat.blt_eq] at hok
      obtain ⟨⟨rfl, h2⟩, h3⟩ := hok
      exact g_aald F h2 h3 hd q
    | aastore =>
      simp only [okE, Bool.and_eq_true, beq_iff_eq, Nat.blt_eq] at hok
      obtain ⟨⟨rfl, h2⟩, h3⟩ := hok
      exact g_aast F h2 h3 hd q
    | arraylength =>
      simp only [okE, Bool.and_eq_true, beq_iff_eq] at hok
      obtain ⟨rfl, rfl⟩ := hok
      exact g_alen F hd q
    | aconst_null =>
      have hok : n = 1 := by simpa [okE] using hok
      subst hok
      exact g_null F hd q
    | iadd =>
      have hok : n = 1 := by simpa [okE] using hok
      subst hok
      exact g_iadd F hd q
    | isub =>
      have hok : n = 1 := by simpa [okE] using hok
      subst hok
      exact g_isub F hd q
    | imul =>
      have hok : n = 1 := by simpa [okE] using hok
      subst hok
      exact g_imul F hd q
    | iand =>
      have hok : n = 1 := by simpa [okE] using hok
      subst hok
      exact g_iand F hd q
    | idiv =>
      have hok : n = 1 := by simpa [okE] using hok
      subst hok
      exact g_idiv F hd q
    | irem =>
      have hok : n = 1 := by simpa [okE] using hok
      subst hok
      exact g_irem F hd q
    | dup =>
      have hok : n = 1 := by simpa [okE] using hok
      subst hok
      exact g_dup F hd q
    | dup2 =>
      have hok : n = 1 := by simpa [okE] using hok
      subst hok
      exact g_dup2 F hd q
    | invokevirtual i =>
      simp only [okE, Bool.and_eq_true, beq_iff_eq] at hok
      obtain ⟨rfl, h2⟩ := hok
      simp only [vkE, Bool.and_eq_true, Bool.not_eq_true', decide_eq_true_eq] at hvk
      exact g_virtual F hC hd1 hd2 hd h2 hvk.1 hvk.2 q
    | invokespecial i =>
      have hok : (n == 3 && (if a = 904 then spT.contains (mO mi, i, 904) else (mY a).name == "<init>" && (if b = 0 then mlT.contains (mO mi, i, a) else nlT.contains (mO mi, i, a)))) = true := hok
      rw [Bool.and_eq_true, beq_iff_eq] at hok
      obtain ⟨rfl, h2⟩ := hok
      have q : if a = 904 then pR st fun a r => (¬ a = 0 ∧ r.length ≤ 8) ∧ Gx x p l e R s m args below meth c Qf mi (pc + 3) ls r h bc bs else pN (mA a) st fun args1 r => vh args1 h (mO a) ∧ cal CE (Gx x p l e R s m args below meth c Qf mi) a pc args1 r ls h bc bs := q
      by_cases h9 : a = 904
      · rw [if_pos h9] at q h2
        exact g_objInit F hd h2 q
      · rw [if_neg h9] at q h2
        rw [Bool.and_eq_true, beq_iff_eq] at h2
        exact g_special F hC hd1 hd2 hd h2.1 h2.2 q
    | invokestatic i =>
      have hok : (n == 3 && (if a < 900 then mlT.contains (mO mi, i, a) else spT.contains (mO mi, i, a))) = true := hok
      rw [Bool.and_eq_true, beq_iff_eq] at hok
      obtain ⟨rfl, h2⟩ := hok
      have hvk : (Nat.ble 900 a && Nat.ble a 903 || mSt a) = true := hvk
      rw [Bool.or_eq_true, Bool.and_eq_true, Nat.ble_eq, Nat.ble_eq] at hvk
      unfold stp at q
      by_cases h0 : a = 900
      · subst h0
        exact g_max F hd h2 q
      · by_cases h1 : a = 901
        · subst h1
          exact g_min F hd h2 q
        · by_cases h2' : a = 902
          · subst h2'
            exact g_abs F hd h2 q
          · by_cases h3 : a = 903
            · subst h3
              exact g_copy F hd h2 q
            · dsimp only at q
              rw [if_neg h0, if_neg h1, if_neg h2', if_neg h3] at q
              by_cases h9 : a < 900
              · rw [if_pos h9] at h2
                exact g_static F hC hd1 hd2 hd h2 (hvk.resolve_left (by omega)) q
              · rw [if_neg h9] at h2
                have h4 := sp_at h2
                rcases hvk with h5 | h5
                · omega
                · have h6 : a = 904 := by omega
                  rw [h6] at h5
                  exact absurd h5 (by decide)
    | tableswitch dd lo hi offs =>
      have hvk : Nat.blt offs.size 1000 = true := hvk
      exact g_switch F hd hok (by simpa using hvk) q
    | ireturn =>
      have hok : n = 1 := by simpa [okE] using hok
      subst hok
      obtain ⟨z, r, rfl, rfl, h1, h2⟩ := pI_el q
      exact fun H locs cells slots la hl hr hS hc hs => hR.1 z h H locs cells slots la pc h2 h1 hr hS (by omega) (by omega) hd
    | areturn =>
      have hok : n = 1 := by simpa [okE] using hok
      subst hok
      obtain ⟨z, r, rfl, rfl, h2⟩ := pR_el q
      have hrr : ∃ rt, mR mi = some rt ∧ ((∃ n, rt = .object n) ∨ ∃ t, rt = .array t) := by
        have hvr : (match mR mi with | some (.object _) => true | _ => false) = true := hvr
        cases hm : mR mi with
        | none => rw [hm] at hvr; cases hvr
        | some rt =>
          rw [hm] at hvr
          cases rt with
          | object n => exact ⟨_, rfl, Or.inl ⟨n, rfl⟩⟩
          | _ => cases hvr
      exact fun H locs cells slots la hl hr hS hc hs => hR.2.1 z h H locs cells slots la pc h2 hrr hr hS (by omega) (by omega) hd
    | return_ =>
      have hok : n = 1 := by simpa [okE] using hok
      subst hok
      obtain ⟨rfl, h2⟩ := q
      exact fun H locs cells slots la hl hr hS hc hs => hR.2.2 h H locs cells slots la pc h2 (by simpa [vkR] using hvr) hr hS (by omega) (by omega) hd
    | _ => exact False.elim q
/-- a method's contract, at every depth -/
theorem CeS_of (x : Cx) (l : Launch) : ∀ d, CeS x l d (MW d)
  | 0 => fun _ _ _ _ _ _ h => False.elim h
  | d + 1 => by
    intro mi as h0 Q hm hal0 w
    refine Met.ofW (cc := mC mi) (maxL := mL mi) (ret := mR mi) (m_pl hm).2.1 rfl ?_
    intro p e s m args below meth c s₁ B hml hv
    obtain ⟨rfl, hr, hK⟩ := hv
    have hts := atoms_spec (ws := wd mi) B.pre
    have hown : s.vm.findClass (kN (mO mi)) = some m.cls := by
      rw [← (m_pl hm).1]
      exact findClass_of_methodNamed B.named
    have hB : x.2.2.2.1 ≤ s.heap.size := by rw [hr.1]; omega
    have F : Fx x p (headSpec (wd mi) (rmD (d + 1) mi)).room s m (as.map (tv x)).toArray meth c mi := ⟨B.exec, B.bytes, hml, hown, fun w hw => hts w (List.mem_cons_of_mem _ hw), hK, fun hi => (name_of_methodNamed B.named B.method).1.trans hi, hB, by show 1 ≤ d + 1; omega, by show 64 ≤ 64 * (d + 1); omega, by omega⟩
    have hlk := B.notSynchronized
    have hrt := B.returns
    have hR : RetI x p l e (headSpec (wd mi) (rmD (d + 1) mi)).room s m (as.map (tv x)).toArray below meth c (MQ below (QcA x Q) (as.map (tv x)).toArray s (mB mi).1 (mB mi).2 (fun q => x.2.2.2.1 ≤ q)) mi Q := by
      refine ⟨fun z h H locs cells slots la pc hq hz hr hS hc hs hd => ?_, fun a h H locs cells slots la pc hq hrr hr hS hc hs hd => ?_, fun h H locs cells slots la pc hq hrr hr hS hc hs hd => ?_⟩
      · refine W.widen (k := (mB mi).1) (n := (mB mi).2) hc hs ?_
        rcases hz with hz | ⟨hz, hz2⟩
        · exact W.iret F.1 F.2.1 (hrt.trans hz) (fun t ht hW => ⟨⟨some (.inl z), h, rfl, hq, by rw [ht]; exact hr⟩, hS.F ht⟩) hS.2.2 hd hlk
        · exact W.zret F.1 F.2.1 (hrt.trans hz) (by rcases hz2 with rfl | rfl <;> rfl) (fun t ht hW => ⟨⟨some (.inl z), h, rfl, hq, by rw [ht]; exact hr⟩, hS.F ht⟩) hS.2.2 hd hlk
      · refine W.widen (k := (mB mi).1) (n := (mB mi).2) hc hs ?_
        obtain ⟨rt, h1, h2⟩ := hrr
        refine W.aret F.1 F.2.1 (hrt.trans h1) h2 ?_ (fun t ht hW => ⟨⟨some (.inr a), h, rfl, hq, by rw [ht]; exact hr⟩, hS.F ht⟩) hS.2.2 hd hlk
        by_cases h0 : a = 0
        · subst h0; exact Or.inl rfl
        · exact Or.inr ⟨_, tv_nz h0⟩
      · refine W.widen (k := (mB mi).1) (n := (mB mi).2) hc hs ?_
        exact W.vret F.1 F.2.1 (hrt.trans hrr) (fun t ht hW => ⟨⟨none, h, rfl, hq, by rw [ht]; exact hr⟩, hS.F ht⟩) hS.2.2 hd hlk
    have hal : as.length ≤ mL mi := by rw [hal0]; exact (m_pl hm).2.2.2.2.2.2.2.2
    have g := w _ (clo F (CeS_of x l d) (by show d + 1 ≤ d + 1; omega) (by show 64 * (d + 1) ≤ 64 * (d + 1); omega) hR)
    rw [lg_entry_eq]
    exact g s.heap [] 0 0 _ (LR.entry x as hal) hr va_S.rf (by show 0 + _ ≤ (mB mi).1; omega) (by show 0 + _ ≤ (mB mi).2; omega)
end SOUND
