/-! what no method changes: the script, the model's place -/
def Fr (h h' : AH) : Prop := 29 < h.1.1 → 29 < h'.1.1 ∧ h'.1.2.1 1 = h.1.2.1 1 ∧ h'.1.2.1 2 = h.1.2.1 2 ∧ h'.1.2.1 29 = h.1.2.1 29 ∧ h'.1.2.2 1 = h.1.2.2 1 ∧ h'.2.1 19 = h.2.1 19
theorem Fr.rfl {h : AH} : Fr h h := fun q => ⟨q, Eq.refl _, Eq.refl _, Eq.refl _, Eq.refl _, Eq.refl _⟩
theorem Fr.trans {a b c : AH} (h1 : Fr a b) (h2 : Fr b c) : Fr a c := fun q => by
  obtain ⟨e1, e2, e3, e4, e5, e6⟩ := h1 q
  obtain ⟨f1, f2, f3, f4, f5, f6⟩ := h2 e1
  exact ⟨f1, f2.trans e2, f3.trans e3, f4.trans e4, f5.trans e5, f6.trans e6⟩
theorem Fr.iv {h : AH} {c a j : Nat} {x : Int32} (hc : c ≠ 19) : Fr h (h.1, u3 h.2.1 c a j x, h.2.2) := fun q => ⟨q, Eq.refl _, Eq.refl _, Eq.refl _, Eq.refl _, u3_c (Ne.symm hc)⟩
theorem Fr.rv {h : AH} {r : Nat → Nat → Nat → Nat} : Fr h (h.1, h.2.1, r) := fun q => ⟨q, Eq.refl _, Eq.refl _, Eq.refl _, Eq.refl _, Eq.refl _⟩
theorem Fr.cp {h : AH} {a0 s a d n : Nat} : Fr h (h.1, cp3 h.2.1 a0 s a d n, h.2.2) := fun q => ⟨q, Eq.refl _, Eq.refl _, Eq.refl _, Eq.refl _, by
  funext b j
  show cp3 h.2.1 a0 s a d n 19 b j = _
  unfold cp3
  rw [if_neg (by omega)]⟩
theorem Fr.new {h : AH} {c : Nat} : Fr h ((h.1.1 + 1, u1 h.1.2.1 h.1.1 c, h.1.2.2), h.2) := fun q => ⟨Nat.lt_succ_of_lt q, u1_n (by omega), u1_n (by omega), u1_n (by omega), Eq.refl _, Eq.refl _⟩
theorem Fr.newa {h : AH} {c x : Nat} : Fr h ((h.1.1 + 1, u1 h.1.2.1 h.1.1 c, u1 h.1.2.2 h.1.1 x), h.2) := fun q => ⟨Nat.lt_succ_of_lt q, u1_n (by omega), u1_n (by omega), u1_n (by omega), u1_n (by omega), Eq.refl _⟩
def frE (q : Nat × En) : Bool := match q.2 with
  | (.putfield _, _, c, _, _) => !(c == 19)
  | (.iastore, _, c, _, _) => !(c == 19)
  | (.bastore, _, c, _, _) => !(c == 19)
  | _ => true
theorem fr_ok : (List.range 120).all (fun m => (tb m).all frE) = true := by decide +kernel
theorem fr_at {m pc : Nat} (hm : m < 120) {e : En} (h : look m pc = some e) : frE (pc, e) = true := List.all_eq_true.mp (List.all_eq_true.mp fr_ok m (List.mem_range.mpr hm)) _ (lkl_mem _ _ _ h)
def CeF (CE : Ce) : Prop := ∀ (m : Nat) (args : List AV) (h : AH) (Q : Rt), m < 119 → CE m args h Q → CE m args h (fun v h' => Q v h' ∧ Fr h h')
theorem cal_fr {CE : Ce} (hC : CeM CE) (hF : CeF CE) {m' pc : Nat} (hm : m' < 119) {args st : List AV} {ls : List LV} {h : AH} {bc bs : Nat} {K K' : Kt} (hK : ∀ pc ls st h' bc bs, Fr h h' → K pc ls st h' bc bs → K' pc ls st h' bc bs) (q : cal CE K m' pc args st ls h bc bs) : cal CE K' m' pc args st ls h bc bs :=
  ⟨q.1, q.2.1, q.2.2.1, hC _ _ _ _ _ (fun _ _ z => hK _ _ _ _ _ _ z.2 z.1) (hF m' args h _ hm q.2.2.2)⟩
def mcE (q : Nat × En) : Bool := match q.2 with
  | (.invokevirtual _, _, m', _, _) => Nat.blt m' 119
  | (.invokestatic _, _, m', _, _) => Nat.blt m' 119 || Nat.ble 900 m' && Nat.ble m' 903
  | (.invokespecial _, _, m', _, _) => Nat.blt m' 119 || m' == 904
  | _ => true
theorem mc_ok : (List.range 120).all (fun m => (tb m).all mcE) = true := by decide +kernel
theorem mc_at {m pc : Nat} (hm : m < 120) {e : En} (h : look m pc = some e) : mcE (pc, e) = true := List.all_eq_true.mp (List.all_eq_true.mp mc_ok m (List.mem_range.mpr hm)) _ (lkl_mem _ _ _ h)
theorem ite_mono2 {c : Prop} [Decidable c] {A B A' B' : Prop} (h1 : c → A → A') (h2 : ¬ c → B → B') : (if c then A else B) → (if c then A' else B') := by
  split
  · exact h1 (by assumption)
  · exact h2 (by assumption)
set_option maxHeartbeats 4000000 in
theorem stp_fr {CE : Ce} (hC : CeM CE) (hF : CeF CE) {K K' : Kt} {Q Q' : Rt} {rt : Option FieldType} {e : Option En} {pc : Nat} {ls : List LV} {st : List AV} {h : AH} {bc bs : Nat} (hK : ∀ pc ls st h' bc bs, Fr h h' → K pc ls st h' bc bs → K' pc ls st h' bc bs) (hQ : ∀ v, Q v h → Q' v h) (hf : ∀ en, e = some en → frE (pc, en) = true ∧ mcE (pc, en) = true) : stp CE K Q rt e pc ls st h bc bs → stp CE K' Q' rt e pc ls st h bc bs := by
  have hKr : ∀ pc ls st bc bs, K pc ls st h bc bs → K' pc ls st h bc bs := fun _ _ _ _ _ => hK _ _ _ _ _ _ Fr.rfl
  unfold stp
  split <;>
    (first
      | (repeat (first
          | exact hKr _ _ _ _ _
          | exact hQ _
          | exact id
          | refine pI_mono (fun _ _ => ?_)
          | refine pR_mono (fun _ _ => ?_)
          | refine pV_mono (fun _ _ => ?_)
          | refine lI_mono (fun _ => ?_)
          | refine lR_mono (fun _ => ?_)
          | refine swt_mono (fun _ => ?_) ?_
          | exact hK _ _ _ _ _ _ Fr.rv
          | exact hK _ _ _ _ _ _ Fr.cp
          | exact hK _ _ _ _ _ _ Fr.new
          | exact hK _ _ _ _ _ _ Fr.newa
          | (have hz := (hf _ (Eq.refl _)).1
             simp only [frE, Bool.not_eq_true', beq_eq_false_iff_ne, ne_eq] at hz
             exact hK _ _ _ _ _ _ (Fr.iv hz))
          | (have hz := (hf _ (Eq.refl _)).2
             simp only [mcE, Bool.or_eq_true, Bool.and_eq_true, Nat.blt_eq, Nat.ble_eq, beq_iff_eq] at hz
             exact pN_mono (fun _ _ => And.imp_right (cal_fr hC hF (by omega) hK)))
          | (have hz := (hf _ (Eq.refl _)).2
             simp only [mcE, Bool.or_eq_true, Bool.and_eq_true, Nat.blt_eq, Nat.ble_eq, beq_iff_eq] at hz
             exact pN_mono (fun _ _ => cal_fr hC hF (by omega) hK))
          | refine ite_mono2 (fun _ => ?_) (fun _ => ?_)
          | refine And.imp_right ?_))
      | skip)

theorem WPc_fr {CE : Ce} (hC : CeM CE) (hF : CeF CE) {m : Nat} (hm : m < 120) {Q : Rt} {pc : Nat} {ls : List LV} {st : List AV} {h : AH} {bc bs : Nat} (w : WPc CE m Q pc ls st h bc bs) : ∀ h0, Fr h0 h → WPc CE m (fun v h' => Q v h' ∧ Fr h0 h') pc ls st h bc bs := by
  refine w (fun pc ls st h bc bs => ∀ h0, Fr h0 h → WPc CE m (fun v h' => Q v h' ∧ Fr h0 h') pc ls st h bc bs) ?_
  intro pc ls st h bc bs q h0 hfr
  refine WPc_in hC (stp_fr hC hF (fun _ _ _ h' _ _ hh' k => k h0 (hfr.trans hh')) (fun v hv => ⟨hv, hfr⟩) (fun en he => ⟨fr_at hm he, mc_at hm he⟩) q)
theorem MW_fr : ∀ d, CeF (MW d)
  | 0 => fun _ _ _ _ _ h => h.elim
  | d + 1 => fun m _ h _ hm w => WPc_fr (MW_ceM d) (MW_fr d) (by omega) w h Fr.rfl
