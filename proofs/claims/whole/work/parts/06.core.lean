/-! THE ABSTRACT MACHINE: values are ints or places (0 null, 1 the script); the heap: next place, kinds, lengths, ints and references by kind, place, slot -/
abbrev AV : Type := Int32 ⊕ Nat
abbrev LV : Type := Option AV
abbrev AH : Type := (Nat × (Nat → Nat) × (Nat → Nat)) × (Nat → Nat → Nat → Int32) × (Nat → Nat → Nat → Nat)
abbrev Kt : Type := Nat → List LV → List AV → AH → Nat → Nat → Prop
abbrev Rt : Type := Option AV → AH → Prop
abbrev Ce : Type := Nat → List AV → AH → Rt → Prop
def u3 {α : Type} (f : Nat → Nat → Nat → α) (c a j : Nat) (x : α) : Nat → Nat → Nat → α := fun c' a' j' => if c' = c ∧ a' = a ∧ j' = j then x else f c' a' j'
def u1 (f : Nat → Nat) (a x : Nat) : Nat → Nat := fun a' => if a' = a then x else f a'
/-- a row of places copied -/
def cp3 (f : Nat → Nat → Nat → Int32) (a0 sp a dp n : Nat) : Nat → Nat → Nat → Int32 := fun c' a' j' => if c' = 20 ∧ a' = a then va_cpy (f 20 a0) (f 20 a) sp dp n j' else f c' a' j'
def rmd (x y : Int32) : Int32 := x - x / y * y
def pI (st : List AV) (f : Int32 → List AV → Prop) : Prop := match st with
  | .inl x :: r => f x r
  | _ => False
def pR (st : List AV) (f : Nat → List AV → Prop) : Prop := match st with
  | .inr a :: r => f a r
  | _ => False
def pV (st : List AV) (f : AV → List AV → Prop) : Prop := match st with
  | v :: r => f v r
  | _ => False
def lI (ls : List LV) (i : Nat) (f : Int32 → Prop) : Prop := match ls[i]? with
  | some (some (.inl x)) => f x
  | _ => False
def lR (ls : List LV) (i : Nat) (f : Nat → Prop) : Prop := match ls[i]? with
  | some (some (.inr a)) => f a
  | _ => False
def pN (k : Nat) (st : List AV) (f : List AV → List AV → Prop) : Prop := k ≤ st.length ∧ f (st.take k).reverse (st.drop k)
def fvl (h : AH) (K a j : Nat) : AV := if ft K j = 2 then .inr (h.2.2 K a j) else .inl (h.2.1 K a j)
def swt (x : Int32) (l : List (Int32 × Nat)) (k : Nat → Prop) (d : Prop) : Prop := match l with
  | [] => d
  | (v, t) :: r => if x = v then k t else swt x r k d
def vh (args : List AV) (h : AH) (c : Nat) : Prop := match args with
  | .inr a :: _ => h.1.2.1 a = c
  | _ => False
def cal (CE : Ce) (K : Kt) (m' pc : Nat) (args st : List AV) (ls : List LV) (h : AH) (bc bs : Nat) : Prop := st.length ≤ 8 ∧ (mB m').1 ≤ bc ∧ (mB m').2 ≤ bs ∧ CE m' args h (fun v h' => K (pc + 3) ls (v.toList ++ st) h' (bc - (mB m').1) (bs - (mB m').2))
def stp (CE : Ce) (K : Kt) (Q : Rt) (rt : Option FieldType) (e : Option En) (pc : Nat) (ls : List LV) (st : List AV) (h : AH) (bc bs : Nat) : Prop := match e with
  | some (.aload_n _, _, i, _, _) => lR ls i fun a => K (pc + 1) ls (.inr a :: st) h bc bs
  | some (.aload _, _, i, _, _) => lR ls i fun a => K (pc + 2) ls (.inr a :: st) h bc bs
  | some (.iload_n _, _, i, _, _) => lI ls i fun x => K (pc + 1) ls (.inl x :: st) h bc bs
  | some (.iload _, _, i, _, _) => lI ls i fun x => K (pc + 2) ls (.inl x :: st) h bc bs
  | some (.istore_n _, _, i, _, _) => pI st fun x r => K (pc + 1) (ls.set i (some (.inl x))) r h bc bs
  | some (.istore _, _, i, _, _) => pI st fun x r => K (pc + 2) (ls.set i (some (.inl x))) r h bc bs
  | some (.astore_n _, _, i, _, _) => pR st fun x r => K (pc + 1) (ls.set i (some (.inr x))) r h bc bs
  | some (.astore _, _, i, _, _) => pR st fun x r => K (pc + 2) (ls.set i (some (.inr x))) r h bc bs
  | some (.iconst _, _, _, _, v) => K (pc + 1) ls (.inl v :: st) h bc bs
  | some (.bipush _, _, _, _, v) => K (pc + 2) ls (.inl v :: st) h bc bs
  | some (.sipush _, _, _, _, v) => K (pc + 3) ls (.inl v :: st) h bc bs
  | some (.ldc _, _, _, _, v) => K (pc + 2) ls (.inl v :: st) h bc bs
  | some (.aconst_null, _, _, _, _) => K (pc + 1) ls (.inr 0 :: st) h bc bs
  | some (.iadd, _, _, _, _) => pI st fun y r => pI r fun x r => K (pc + 1) ls (.inl (x + y) :: r) h bc bs
  | some (.isub, _, _, _, _) => pI st fun y r => pI r fun x r => K (pc + 1) ls (.inl (x - y) :: r) h bc bs
  | some (.imul, _, _, _, _) => pI st fun y r => pI r fun x r => K (pc + 1) ls (.inl (x * y) :: r) h bc bs
  | some (.iand, _, _, _, _) => pI st fun y r => pI r fun x r => K (pc + 1) ls (.inl (x &&& y) :: r) h bc bs
  | some (.idiv, _, _, _, _) => pI st fun y r => pI r fun x r => ¬ y = 0 ∧ K (pc + 1) ls (.inl (x / y) :: r) h bc bs
  | some (.irem, _, _, _, _) => pI st fun y r => pI r fun x r => ¬ y = 0 ∧ K (pc + 1) ls (.inl (rmd x y) :: r) h bc bs
  | some (.iinc _ _, _, i, _, v) => lI ls i fun x => K (pc + 3) (ls.set i (some (.inl (x + v)))) st h bc bs
  | some (.if_icmp .eq _, _, t, _, _) => pI st fun y r => pI r fun x r => if x = y then K t ls r h bc bs else K (pc + 3) ls r h bc bs
  | some (.if_icmp .ne _, _, t, _, _) => pI st fun y r => pI r fun x r => if x = y then K (pc + 3) ls r h bc bs else K t ls r h bc bs
  | some (.if_icmp .lt _, _, t, _, _) => pI st fun y r => pI r fun x r => if x < y then K t ls r h bc bs else K (pc + 3) ls r h bc bs
  | some (.if_icmp .ge _, _, t, _, _) => pI st fun y r => pI r fun x r => if y ≤ x then K t ls r h bc bs else K (pc + 3) ls r h bc bs
  | some (.if_icmp .gt _, _, t, _, _) => pI st fun y r => pI r fun x r => if y < x then K t ls r h bc bs else K (pc + 3) ls r h bc bs
  | some (.if_icmp .le _, _, t, _, _) => pI st fun y r => pI r fun x r => if x ≤ y then K t ls r h bc bs else K (pc + 3) ls r h bc bs
  | some (.ifCond .eq _, _, t, _, _) => pI st fun x r => if x = 0 then K t ls r h bc bs else K (pc + 3) ls r h bc bs
  | some (.ifCond .ne _, _, t, _, _) => pI st fun x r => if x = 0 then K (pc + 3) ls r h bc bs else K t ls r h bc bs
  | some (.ifCond .lt _, _, t, _, _) => pI st fun x r => if x < 0 then K t ls r h bc bs else K (pc + 3) ls r h bc bs
  | some (.ifCond .le _, _, t, _, _) => pI st fun x r => if x ≤ 0 then K t ls r h bc bs else K (pc + 3) ls r h bc bs
  | some (.ifnull _, _, t, _, _) => pR st fun a r => if a = 0 then K t ls r h bc bs else K (pc + 3) ls r h bc bs
  | some (.ifnonnull _, _, t, _, _) => pR st fun a r => if a = 0 then K (pc + 3) ls r h bc bs else K t ls r h bc bs
  | some (.goto _, _, t, _, _) => K t ls st h bc bs
  | some (.dup, _, _, _, _) => pV st fun v r => K (pc + 1) ls (v :: v :: r) h bc bs
  | some (.dup2, _, _, _, _) => pV st fun v r => pV r fun w r => K (pc + 1) ls (v :: w :: v :: w :: r) h bc bs
  | some (.getfield _, _, c, j, _) => pR st fun a r => h.1.2.1 a = c ∧ K (pc + 3) ls (fvl h c a j :: r) h bc bs
  | some (.putfield _, _, c, j, _) => if ft c j = 2 then pR st fun v r => pR r fun a r => h.1.2.1 a = c ∧ K (pc + 3) ls r (h.1, h.2.1, u3 h.2.2 c a j v) bc bs else pI st fun v r => pR r fun a r => h.1.2.1 a = c ∧ (ft c j = 1 → v = 0 ∨ v = 1) ∧ K (pc + 3) ls r (h.1, u3 h.2.1 c a j v, h.2.2) bc bs
  | some (.iaload, _, c, _, _) => pI st fun i r => pR r fun a r => h.1.2.1 a = c ∧ vp_in i (h.1.2.2 a) ∧ K (pc + 1) ls (.inl (h.2.1 c a i.toNatClampNeg) :: r) h bc bs
  | some (.baload, _, c, _, _) => pI st fun i r => pR r fun a r => h.1.2.1 a = c ∧ vp_in i (h.1.2.2 a) ∧ K (pc + 1) ls (.inl (h.2.1 c a i.toNatClampNeg) :: r) h bc bs
  | some (.aaload, _, c, _, _) => pI st fun i r => pR r fun a r => h.1.2.1 a = c ∧ vp_in i (h.1.2.2 a) ∧ K (pc + 1) ls (.inr (h.2.2 c a i.toNatClampNeg) :: r) h bc bs
  | some (.iastore, _, c, _, _) => pI st fun v r => pI r fun i r => pR r fun a r => h.1.2.1 a = c ∧ vp_in i (h.1.2.2 a) ∧ K (pc + 1) ls r (h.1, u3 h.2.1 c a i.toNatClampNeg v, h.2.2) bc bs
  | some (.bastore, _, c, _, _) => pI st fun v r => pI r fun i r => pR r fun a r => h.1.2.1 a = c ∧ vp_in i (h.1.2.2 a) ∧ (v = 0 ∨ v = 1) ∧ K (pc + 1) ls r (h.1, u3 h.2.1 c a i.toNatClampNeg v, h.2.2) bc bs
  | some (.aastore, _, c, _, _) => pR st fun v r => pI r fun i r => pR r fun a r => h.1.2.1 a = c ∧ h.1.2.1 v + 30 = c ∧ vp_in i (h.1.2.2 a) ∧ K (pc + 1) ls r (h.1, h.2.1, u3 h.2.2 c a i.toNatClampNeg v) bc bs
  | some (.arraylength, _, c, _, _) => pR st fun a r => h.1.2.1 a = c ∧ K (pc + 1) ls (.inl (Int32.ofNat (h.1.2.2 a)) :: r) h bc bs
  | some (.new _, _, c, _, _) => 1 ≤ bc ∧ kF c ≤ bs ∧ K (pc + 3) ls (.inr h.1.1 :: st) ((h.1.1 + 1, u1 h.1.2.1 h.1.1 c, h.1.2.2), h.2) (bc - 1) (bs - kF c)
  | some (.newarray _, _, c, _, _) => pI st fun n r => ¬ n < 0 ∧ n.toNatClampNeg * 8 ≤ 536870912 ∧ 1 ≤ bc ∧ n.toNatClampNeg ≤ bs ∧ K (pc + 2) ls (.inr h.1.1 :: r) ((h.1.1 + 1, u1 h.1.2.1 h.1.1 c, u1 h.1.2.2 h.1.1 n.toNatClampNeg), h.2) (bc - 1) (bs - n.toNatClampNeg)
  | some (.anewarray _, _, c, _, _) => pI st fun n r => ¬ n < 0 ∧ n.toNatClampNeg * 8 ≤ 536870912 ∧ 1 ≤ bc ∧ n.toNatClampNeg ≤ bs ∧ K (pc + 3) ls (.inr h.1.1 :: r) ((h.1.1 + 1, u1 h.1.2.1 h.1.1 c, u1 h.1.2.2 h.1.1 n.toNatClampNeg), h.2) (bc - 1) (bs - n.toNatClampNeg)
  | some (.invokevirtual _, _, m', _, _) => pN (mA m') st fun args r => vh args h (mO m') ∧ cal CE K m' pc args r ls h bc bs
  | some (.invokespecial _, _, m', _, _) => if m' = 904 then pR st fun a r => (¬ a = 0 ∧ r.length ≤ 8) ∧ K (pc + 3) ls r h bc bs else pN (mA m') st fun args r => vh args h (mO m') ∧ cal CE K m' pc args r ls h bc bs
  | some (.invokestatic _, _, m', _, _) =>
      if m' = 900 then pI st fun y r => pI r fun x r => r.length ≤ 8 ∧ K (pc + 3) ls (.inl (if x < y then y else x) :: r) h bc bs
      else if m' = 901 then pI st fun y r => pI r fun x r => r.length ≤ 8 ∧ K (pc + 3) ls (.inl (if y < x then y else x) :: r) h bc bs
      else if m' = 902 then pI st fun x r => r.length ≤ 8 ∧ K (pc + 3) ls (.inl (if 0 ≤ x then x else 0 - x) :: r) h bc bs
      else if m' = 903 then pI st fun n r => pI r fun dp r => pR r fun a r => pI r fun sp r => pR r fun a0 r => (r.length ≤ 8 ∧ h.1.2.1 a = 20 ∧ h.1.2.1 a0 = 20 ∧ ¬ sp < 0 ∧ ¬ dp < 0 ∧ ¬ n < 0 ∧ sp.toNatClampNeg + n.toNatClampNeg ≤ h.1.2.2 a0 ∧ dp.toNatClampNeg + n.toNatClampNeg ≤ h.1.2.2 a) ∧ K (pc + 3) ls r (h.1, cp3 h.2.1 a0 sp.toNatClampNeg a dp.toNatClampNeg n.toNatClampNeg, h.2.2) bc bs
      else pN (mA m') st fun args r => cal CE K m' pc args r ls h bc bs
  | some (.tableswitch _ _ _ _, _, k, d, _) => pI st fun x r => swt x (swL k) (fun t => K t ls r h bc bs) (K d ls r h bc bs)
  | some (.ireturn, _, _, _, _) => pI st fun x r => r = [] ∧ (rt = some .int ∨ rt = some .boolean ∧ (x = 0 ∨ x = 1)) ∧ Q (some (.inl x)) h
  | some (.areturn, _, _, _, _) => pR st fun a r => r = [] ∧ Q (some (.inr a)) h
  | some (.return_, _, _, _, _) => st = [] ∧ Q none h
  | _ => False
/-- the least K that is closed under steps backwards -/
def WPc (CE : Ce) (m : Nat) (Q : Rt) : Kt := fun pc ls st h bc bs => ∀ K : Kt, (∀ pc ls st h bc bs, stp CE K Q (mR m) (look m pc) pc ls st h bc bs → K pc ls st h bc bs) → K pc ls st h bc bs
def MW : Nat → Ce
  | 0 => fun _ _ _ _ => False
  | d + 1 => fun m args h Q => WPc (MW d) m Q 0 (args.map some ++ List.replicate (mL m - args.length) none) [] h (mB m).1 (mB m).2
abbrev WP (d m : Nat) (Q : Rt) : Kt := WPc (MW d) m Q
theorem pI_mono {st : List AV} {f g : Int32 → List AV → Prop} (h : ∀ x r, f x r → g x r) : pI st f → pI st g := by
  unfold pI; split
  · exact h _ _
  · exact id
theorem pR_mono {st : List AV} {f g : Nat → List AV → Prop} (h : ∀ x r, f x r → g x r) : pR st f → pR st g := by
  unfold pR; split
  · exact h _ _
  · exact id
theorem pV_mono {st : List AV} {f g : AV → List AV → Prop} (h : ∀ x r, f x r → g x r) : pV st f → pV st g := by
  unfold pV; split
  · exact h _ _
  · exact id
theorem lI_mono {ls : List LV} {i : Nat} {f g : Int32 → Prop} (h : ∀ x, f x → g x) : lI ls i f → lI ls i g := by
  unfold lI; split
  · exact h _
  · exact id
theorem lR_mono {ls : List LV} {i : Nat} {f g : Nat → Prop} (h : ∀ x, f x → g x) : lR ls i f → lR ls i g := by
  unfold lR; split
  · exact h _
  · exact id
theorem pN_mono {k : Nat} {st : List AV} {f g : List AV → List AV → Prop} (h : ∀ x r, f x r → g x r) : pN k st f → pN k st g := fun q => ⟨q.1, h _ _ q.2⟩
theorem ite_mono {c : Prop} [Decidable c] {A B A' B' : Prop} (h1 : A → A') (h2 : B → B') : (if c then A else B) → (if c then A' else B') := by
  split
  · exact h1
  · exact h2
theorem swt_mono {x : Int32} {l : List (Int32 × Nat)} {k k' : Nat → Prop} {d d' : Prop} (h1 : ∀ t, k t → k' t) (h2 : d → d') : swt x l k d → swt x l k' d' := by
  induction l with
  | nil => exact h2
  | cons q r ih => exact ite_mono (h1 _) ih
def CeM (CE : Ce) : Prop := ∀ (m : Nat) (args : List AV) (h : AH) (Q Q' : Rt), (∀ v h', Q v h' → Q' v h') → CE m args h Q → CE m args h Q'
theorem cal_mono {CE : Ce} (hC : CeM CE) {K K' : Kt} (hK : ∀ pc ls st h bc bs, K pc ls st h bc bs → K' pc ls st h bc bs) {m' pc : Nat} {args st : List AV} {ls : List LV} {h : AH} {bc bs : Nat} : cal CE K m' pc args st ls h bc bs → cal CE K' m' pc args st ls h bc bs := fun q => ⟨q.1, q.2.1, q.2.2.1, hC _ _ _ _ _ (fun _ _ => hK _ _ _ _ _ _) q.2.2.2⟩
set_option maxHeartbeats 4000000 in
theorem stp_mono {CE : Ce} (hC : CeM CE) {K K' : Kt} (hK : ∀ pc ls st h bc bs, K pc ls st h bc bs → K' pc ls st h bc bs) {Q Q' : Rt} (hQ : ∀ v h, Q v h → Q' v h) {rt : Option FieldType} {e : Option En} {pc : Nat} {ls : List LV} {st : List AV} {h : AH} {bc bs : Nat} : stp CE K Q rt e pc ls st h bc bs → stp CE K' Q' rt e pc ls st h bc bs := by
  unfold stp
  split <;>
    repeat (first
      | exact hK _ _ _ _ _ _
      | exact hQ _ _
      | exact id
      | refine pI_mono (fun _ _ => ?_)
      | refine pR_mono (fun _ _ => ?_)
      | refine pV_mono (fun _ _ => ?_)
      | refine lI_mono (fun _ => ?_)
      | refine lR_mono (fun _ => ?_)
      | refine pN_mono (fun _ _ => ?_)
      | refine swt_mono (fun _ => ?_) ?_
      | refine ite_mono ?_ ?_
      | exact cal_mono hC hK
      | refine And.imp_right ?_)
theorem WPc_mono {CE CE' : Ce} (hC : CeM CE) {m : Nat} {Q Q' : Rt} (hQ : ∀ v h, Q v h → Q' v h) {pc : Nat} {ls : List LV} {st : List AV} {h : AH} {bc bs : Nat} (w : WPc CE m Q pc ls st h bc bs) : WPc CE m Q' pc ls st h bc bs := fun K hK => w K (fun pc ls st h bc bs q => hK pc ls st h bc bs (stp_mono hC (fun _ _ _ _ _ _ => id) hQ q))
theorem MW_ceM : ∀ d, CeM (MW d)
  | 0 => fun _ _ _ _ _ _ h => h
  | d + 1 => fun _ _ _ _ _ hQ h => WPc_mono (CE' := MW d) (MW_ceM d) hQ h
theorem WPc_in {CE : Ce} (hC : CeM CE) {m : Nat} {Q : Rt} {pc : Nat} {ls : List LV} {st : List AV} {h : AH} {bc bs : Nat} (q : stp CE (WPc CE m Q) Q (mR m) (look m pc) pc ls st h bc bs) : WPc CE m Q pc ls st h bc bs := fun K hK => hK _ _ _ _ _ _ (stp_mono hC (fun _ _ _ _ _ _ w => w K hK) (fun _ _ => id) q)
theorem WPc_eq {CE : Ce} (hC : CeM CE) {m : Nat} {Q : Rt} {pc : Nat} {ls : List LV} {st : List AV} {h : AH} {bc bs : Nat} : WPc CE m Q pc ls st h bc bs = stp CE (WPc CE m Q) Q (mR m) (look m pc) pc ls st h bc bs :=
  propext ⟨fun w => w (fun pc ls st h bc bs => stp CE (WPc CE m Q) Q (mR m) (look m pc) pc ls st h bc bs) (fun _ _ _ _ _ _ q => stp_mono hC (fun _ _ _ _ _ _ => WPc_in hC) (fun _ _ => id) q), WPc_in hC⟩

/-- a stop: the head of a loop, a join -/
def WS (d m : Nat) (Q : Rt) : Kt := WP d m Q
theorem WS_eq (d m : Nat) (Q : Rt) (pc : Nat) (ls : List LV) (st : List AV) (h : AH) (bc bs : Nat) : WS d m Q pc ls st h bc bs = stp (MW d) (WP d m Q) Q (mR m) (look m pc) pc ls st h bc bs := WPc_eq (MW_ceM d)
/-- stops, by method and place -/
def sto : Nat → Nat → Bool := fun m pc => false
theorem WP_eq (d m : Nat) (Q : Rt) (pc : Nat) (ls : List LV) (st : List AV) (h : AH) (bc bs : Nat) : WPc (MW d) m Q pc ls st h bc bs = stp (MW d) (WP d m Q) Q (mR m) (look m pc) pc ls st h bc bs := WPc_eq (MW_ceM d)
theorem MW_eq (d m : Nat) (args : List AV) (h : AH) (Q : Rt) : MW (d + 1) m args h Q = WP d m Q 0 (args.map some ++ List.replicate (mL m - args.length) none) [] h (mB m).1 (mB m).2 := rfl
