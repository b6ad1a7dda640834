section EQS
variable {CE : Ce} {K : Kt} {Q : Rt} {rt : Option FieldType} {pc : Nat} {ls : List LV} {st : List AV} {n : Nat} {kd ln : Nat → Nat} {iv : Nat → Nat → Nat → Int32} {rv : Nat → Nat → Nat → Nat} {bc bs : Nat} {q1 q2 q3 : Nat} {q4 : Int32}
theorem s_aload_n {k : Fin 4} : stp CE K Q rt (some (.aload_n k, q1, q2, q3, q4)) pc ls st ((n, kd, ln), iv, rv) bc bs = (lR ls q2 fun x => K (pc + 1) ls (.inr x :: st) ((n, kd, ln), iv, rv) bc bs) := rfl
theorem s_iload_n {k : Fin 4} : stp CE K Q rt (some (.iload_n k, q1, q2, q3, q4)) pc ls st ((n, kd, ln), iv, rv) bc bs = (lI ls q2 fun x => K (pc + 1) ls (.inl x :: st) ((n, kd, ln), iv, rv) bc bs) := rfl
theorem s_istore_n {k : Fin 4} {x : Int32} : stp CE K Q rt (some (.istore_n k, q1, q2, q3, q4)) pc ls (.inl x :: st) ((n, kd, ln), iv, rv) bc bs = (K (pc + 1) (ls.set q2 (some (.inl x))) st ((n, kd, ln), iv, rv) bc bs) := rfl
theorem s_astore_n {k : Fin 4} {x : Nat} : stp CE K Q rt (some (.astore_n k, q1, q2, q3, q4)) pc ls (.inr x :: st) ((n, kd, ln), iv, rv) bc bs = (K (pc + 1) (ls.set q2 (some (.inr x))) st ((n, kd, ln), iv, rv) bc bs) := rfl
theorem s_aload {k : Nat} : stp CE K Q rt (some (.aload k, q1, q2, q3, q4)) pc ls st ((n, kd, ln), iv, rv) bc bs = (lR ls q2 fun x => K (pc + 2) ls (.inr x :: st) ((n, kd, ln), iv, rv) bc bs) := rfl
theorem s_iload {k : Nat} : stp CE K Q rt (some (.iload k, q1, q2, q3, q4)) pc ls st ((n, kd, ln), iv, rv) bc bs = (lI ls q2 fun x => K (pc + 2) ls (.inl x :: st) ((n, kd, ln), iv, rv) bc bs) := rfl
theorem s_istore {k : Nat} {x : Int32} : stp CE K Q rt (some (.istore k, q1, q2, q3, q4)) pc ls (.inl x :: st) ((n, kd, ln), iv, rv) bc bs = (K (pc + 2) (ls.set q2 (some (.inl x))) st ((n, kd, ln), iv, rv) bc bs) := rfl
theorem s_astore {k : Nat} {x : Nat} : stp CE K Q rt (some (.astore k, q1, q2, q3, q4)) pc ls (.inr x :: st) ((n, kd, ln), iv, rv) bc bs = (K (pc + 2) (ls.set q2 (some (.inr x))) st ((n, kd, ln), iv, rv) bc bs) := rfl
theorem s_iconst {k : Int} : stp CE K Q rt (some (.iconst k, q1, q2, q3, q4)) pc ls st ((n, kd, ln), iv, rv) bc bs = (K (pc + 1) ls (.inl q4 :: st) ((n, kd, ln), iv, rv) bc bs) := rfl
theorem s_bipush {k : Int} : stp CE K Q rt (some (.bipush k, q1, q2, q3, q4)) pc ls st ((n, kd, ln), iv, rv) bc bs = (K (pc + 2) ls (.inl q4 :: st) ((n, kd, ln), iv, rv) bc bs) := rfl
theorem s_sipush {k : Int} : stp CE K Q rt (some (.sipush k, q1, q2, q3, q4)) pc ls st ((n, kd, ln), iv, rv) bc bs = (K (pc + 3) ls (.inl q4 :: st) ((n, kd, ln), iv, rv) bc bs) := rfl
theorem s_ldc {k : Nat} : stp CE K Q rt (some (.ldc k, q1, q2, q3, q4)) pc ls st ((n, kd, ln), iv, rv) bc bs = (K (pc + 2) ls (.inl q4 :: st) ((n, kd, ln), iv, rv) bc bs) := rfl
theorem s_null  : stp CE K Q rt (some (.aconst_null, q1, q2, q3, q4)) pc ls st ((n, kd, ln), iv, rv) bc bs = (K (pc + 1) ls (.inr 0 :: st) ((n, kd, ln), iv, rv) bc bs) := rfl
theorem s_iadd {x y : Int32} : stp CE K Q rt (some (.iadd, q1, q2, q3, q4)) pc ls (.inl y :: .inl x :: st) ((n, kd, ln), iv, rv) bc bs = (K (pc + 1) ls (.inl (x + y) :: st) ((n, kd, ln), iv, rv) bc bs) := rfl
theorem s_isub {x y : Int32} : stp CE K Q rt (some (.isub, q1, q2, q3, q4)) pc ls (.inl y :: .inl x :: st) ((n, kd, ln), iv, rv) bc bs = (K (pc + 1) ls (.inl (x - y) :: st) ((n, kd, ln), iv, rv) bc bs) := rfl
theorem s_imul {x y : Int32} : stp CE K Q rt (some (.imul, q1, q2, q3, q4)) pc ls (.inl y :: .inl x :: st) ((n, kd, ln), iv, rv) bc bs = (K (pc + 1) ls (.inl (x * y) :: st) ((n, kd, ln), iv, rv) bc bs) := rfl
theorem s_iand {x y : Int32} : stp CE K Q rt (some (.iand, q1, q2, q3, q4)) pc ls (.inl y :: .inl x :: st) ((n, kd, ln), iv, rv) bc bs = (K (pc + 1) ls (.inl (x &&& y) :: st) ((n, kd, ln), iv, rv) bc bs) := rfl
theorem s_idiv {x y : Int32} : stp CE K Q rt (some (.idiv, q1, q2, q3, q4)) pc ls (.inl y :: .inl x :: st) ((n, kd, ln), iv, rv) bc bs = (¬ y = 0 ∧ K (pc + 1) ls (.inl (x / y) :: st) ((n, kd, ln), iv, rv) bc bs) := rfl
theorem s_irem {x y : Int32} : stp CE K Q rt (some (.irem, q1, q2, q3, q4)) pc ls (.inl y :: .inl x :: st) ((n, kd, ln), iv, rv) bc bs = (¬ y = 0 ∧ K (pc + 1) ls (.inl (rmd x y) :: st) ((n, kd, ln), iv, rv) bc bs) := rfl
theorem s_iinc {k : Nat} {i : Int} : stp CE K Q rt (some (.iinc k i, q1, q2, q3, q4)) pc ls st ((n, kd, ln), iv, rv) bc bs = (lI ls q2 fun x => K (pc + 3) (ls.set q2 (some (.inl (x + q4)))) st ((n, kd, ln), iv, rv) bc bs) := rfl
theorem s_icmp_eq {x y : Int32} {i : Int} : stp CE K Q rt (some (.if_icmp .eq i, q1, q2, q3, q4)) pc ls (.inl y :: .inl x :: st) ((n, kd, ln), iv, rv) bc bs = (if x = y then K q2 ls st ((n, kd, ln), iv, rv) bc bs else K (pc + 3) ls st ((n, kd, ln), iv, rv) bc bs) := rfl
theorem s_icmp_ne {x y : Int32} {i : Int} : stp CE K Q rt (some (.if_icmp .ne i, q1, q2, q3, q4)) pc ls (.inl y :: .inl x :: st) ((n, kd, ln), iv, rv) bc bs = (if x = y then K (pc + 3) ls st ((n, kd, ln), iv, rv) bc bs else K q2 ls st ((n, kd, ln), iv, rv) bc bs) := rfl
theorem s_icmp_lt {x y : Int32} {i : Int} : stp CE K Q rt (some (.if_icmp .lt i, q1, q2, q3, q4)) pc ls (.inl y :: .inl x :: st) ((n, kd, ln), iv, rv) bc bs = (if x < y then K q2 ls st ((n, kd, ln), iv, rv) bc bs else K (pc + 3) ls st ((n, kd, ln), iv, rv) bc bs) := rfl
theorem s_icmp_ge {x y : Int32} {i : Int} : stp CE K Q rt (some (.if_icmp .ge i, q1, q2, q3, q4)) pc ls (.inl y :: .inl x :: st) ((n, kd, ln), iv, rv) bc bs = (if y ≤ x then K q2 ls st ((n, kd, ln), iv, rv) bc bs else K (pc + 3) ls st ((n, kd, ln), iv, rv) bc bs) := rfl
theorem s_icmp_gt {x y : Int32} {i : Int} : stp CE K Q rt (some (.if_icmp .gt i, q1, q2, q3, q4)) pc ls (.inl y :: .inl x :: st) ((n, kd, ln), iv, rv) bc bs = (if y < x then K q2 ls st ((n, kd, ln), iv, rv) bc bs else K (pc + 3) ls st ((n, kd, ln), iv, rv) bc bs) := rfl
theorem s_icmp_le {x y : Int32} {i : Int} : stp CE K Q rt (some (.if_icmp .le i, q1, q2, q3, q4)) pc ls (.inl y :: .inl x :: st) ((n, kd, ln), iv, rv) bc bs = (if x ≤ y then K q2 ls st ((n, kd, ln), iv, rv) bc bs else K (pc + 3) ls st ((n, kd, ln), iv, rv) bc bs) := rfl
theorem s_if_eq {x : Int32} {i : Int} : stp CE K Q rt (some (.ifCond .eq i, q1, q2, q3, q4)) pc ls (.inl x :: st) ((n, kd, ln), iv, rv) bc bs = (if x = 0 then K q2 ls st ((n, kd, ln), iv, rv) bc bs else K (pc + 3) ls st ((n, kd, ln), iv, rv) bc bs) := rfl
theorem s_if_ne {x : Int32} {i : Int} : stp CE K Q rt (some (.ifCond .ne i, q1, q2, q3, q4)) pc ls (.inl x :: st) ((n, kd, ln), iv, rv) bc bs = (if x = 0 then K (pc + 3) ls st ((n, kd, ln), iv, rv) bc bs else K q2 ls st ((n, kd, ln), iv, rv) bc bs) := rfl
theorem s_if_lt {x : Int32} {i : Int} : stp CE K Q rt (some (.ifCond .lt i, q1, q2, q3, q4)) pc ls (.inl x :: st) ((n, kd, ln), iv, rv) bc bs = (if x < 0 then K q2 ls st ((n, kd, ln), iv, rv) bc bs else K (pc + 3) ls st ((n, kd, ln), iv, rv) bc bs) := rfl
theorem s_if_le {x : Int32} {i : Int} : stp CE K Q rt (some (.ifCond .le i, q1, q2, q3, q4)) pc ls (.inl x :: st) ((n, kd, ln), iv, rv) bc bs = (if x ≤ 0 then K q2 ls st ((n, kd, ln), iv, rv) bc bs else K (pc + 3) ls st ((n, kd, ln), iv, rv) bc bs) := rfl
theorem s_ifnull {x : Nat} {i : Int} : stp CE K Q rt (some (.ifnull i, q1, q2, q3, q4)) pc ls (.inr x :: st) ((n, kd, ln), iv, rv) bc bs = (if x = 0 then K q2 ls st ((n, kd, ln), iv, rv) bc bs else K (pc + 3) ls st ((n, kd, ln), iv, rv) bc bs) := rfl
theorem s_ifnonnull {x : Nat} {i : Int} : stp CE K Q rt (some (.ifnonnull i, q1, q2, q3, q4)) pc ls (.inr x :: st) ((n, kd, ln), iv, rv) bc bs = (if x = 0 then K (pc + 3) ls st ((n, kd, ln), iv, rv) bc bs else K q2 ls st ((n, kd, ln), iv, rv) bc bs) := rfl
theorem s_goto {i : Int} : stp CE K Q rt (some (.goto i, q1, q2, q3, q4)) pc ls st ((n, kd, ln), iv, rv) bc bs = (K q2 ls st ((n, kd, ln), iv, rv) bc bs) := rfl
theorem s_dup {v : AV} : stp CE K Q rt (some (.dup, q1, q2, q3, q4)) pc ls (v :: st) ((n, kd, ln), iv, rv) bc bs = (K (pc + 1) ls (v :: v :: st) ((n, kd, ln), iv, rv) bc bs) := rfl
theorem s_dup2 {v w : AV} : stp CE K Q rt (some (.dup2, q1, q2, q3, q4)) pc ls (v :: w :: st) ((n, kd, ln), iv, rv) bc bs = (K (pc + 1) ls (v :: w :: v :: w :: st) ((n, kd, ln), iv, rv) bc bs) := rfl
theorem s_iaload19 {i : Int32} {a : Nat} : stp CE K Q rt (some (.iaload, q1, 19, q3, q4)) pc ls (.inl i :: .inr a :: st) ((n, kd, ln), iv, rv) bc bs = (kd a = 19 ∧ vp_in i (ln a) ∧ K (pc + 1) ls (.inl (iv 19 a i.toNatClampNeg) :: st) ((n, kd, ln), iv, rv) bc bs) := rfl
theorem s_iaload20 {i : Int32} {a : Nat} : stp CE K Q rt (some (.iaload, q1, 20, q3, q4)) pc ls (.inl i :: .inr a :: st) ((n, kd, ln), iv, rv) bc bs = (kd a = 20 ∧ vp_in i (ln a) ∧ K (pc + 1) ls (.inl (iv 20 a i.toNatClampNeg) :: st) ((n, kd, ln), iv, rv) bc bs) := rfl
theorem s_baload {i : Int32} {a : Nat} : stp CE K Q rt (some (.baload, q1, 21, q3, q4)) pc ls (.inl i :: .inr a :: st) ((n, kd, ln), iv, rv) bc bs = (kd a = 21 ∧ vp_in i (ln a) ∧ K (pc + 1) ls (.inl (iv 21 a i.toNatClampNeg) :: st) ((n, kd, ln), iv, rv) bc bs) := rfl
theorem s_aaload {i : Int32} {a : Nat} : stp CE K Q rt (some (.aaload, q1, q2, q3, q4)) pc ls (.inl i :: .inr a :: st) ((n, kd, ln), iv, rv) bc bs = (kd a = q2 ∧ vp_in i (ln a) ∧ K (pc + 1) ls (.inr (rv q2 a i.toNatClampNeg) :: st) ((n, kd, ln), iv, rv) bc bs) := rfl
theorem s_iastore {i x : Int32} {a : Nat} : stp CE K Q rt (some (.iastore, q1, 20, q3, q4)) pc ls (.inl x :: .inl i :: .inr a :: st) ((n, kd, ln), iv, rv) bc bs = (kd a = 20 ∧ vp_in i (ln a) ∧ K (pc + 1) ls st ((n, kd, ln), u3 iv 20 a i.toNatClampNeg x, rv) bc bs) := rfl
theorem s_bastore {i x : Int32} {a : Nat} : stp CE K Q rt (some (.bastore, q1, 21, q3, q4)) pc ls (.inl x :: .inl i :: .inr a :: st) ((n, kd, ln), iv, rv) bc bs = (kd a = 21 ∧ vp_in i (ln a) ∧ (x = 0 ∨ x = 1) ∧ K (pc + 1) ls st ((n, kd, ln), u3 iv 21 a i.toNatClampNeg x, rv) bc bs) := rfl
theorem s_aastore {i : Int32} {a v : Nat} : stp CE K Q rt (some (.aastore, q1, q2, q3, q4)) pc ls (.inr v :: .inl i :: .inr a :: st) ((n, kd, ln), iv, rv) bc bs = (kd a = q2 ∧ kd v + 30 = q2 ∧ vp_in i (ln a) ∧ K (pc + 1) ls st ((n, kd, ln), iv, u3 rv q2 a i.toNatClampNeg v) bc bs) := rfl
theorem s_alen {a : Nat} : stp CE K Q rt (some (.arraylength, q1, q2, q3, q4)) pc ls (.inr a :: st) ((n, kd, ln), iv, rv) bc bs = (kd a = q2 ∧ K (pc + 1) ls (.inl (Int32.ofNat (ln a)) :: st) ((n, kd, ln), iv, rv) bc bs) := rfl
theorem s_new_1 {i : Nat} : stp CE K Q rt (some (.new i, q1, 1, q3, q4)) pc ls st ((n, kd, ln), iv, rv) bc bs = (1 ≤ bc ∧ 2 ≤ bs ∧ K (pc + 3) ls (.inr n :: st) ((n + 1, u1 kd n 1, ln), iv, rv) (bc - 1) (bs - 2)) := rfl
theorem s_new_2 {i : Nat} : stp CE K Q rt (some (.new i, q1, 2, q3, q4)) pc ls st ((n, kd, ln), iv, rv) bc bs = (1 ≤ bc ∧ 6 ≤ bs ∧ K (pc + 3) ls (.inr n :: st) ((n + 1, u1 kd n 2, ln), iv, rv) (bc - 1) (bs - 6)) := rfl
theorem s_new_3 {i : Nat} : stp CE K Q rt (some (.new i, q1, 3, q3, q4)) pc ls st ((n, kd, ln), iv, rv) bc bs = (1 ≤ bc ∧ 3 ≤ bs ∧ K (pc + 3) ls (.inr n :: st) ((n + 1, u1 kd n 3, ln), iv, rv) (bc - 1) (bs - 3)) := rfl
theorem s_new_4 {i : Nat} : stp CE K Q rt (some (.new i, q1, 4, q3, q4)) pc ls st ((n, kd, ln), iv, rv) bc bs = (1 ≤ bc ∧ 9 ≤ bs ∧ K (pc + 3) ls (.inr n :: st) ((n + 1, u1 kd n 4, ln), iv, rv) (bc - 1) (bs - 9)) := rfl
theorem s_new_5 {i : Nat} : stp CE K Q rt (some (.new i, q1, 5, q3, q4)) pc ls st ((n, kd, ln), iv, rv) bc bs = (1 ≤ bc ∧ 4 ≤ bs ∧ K (pc + 3) ls (.inr n :: st) ((n + 1, u1 kd n 5, ln), iv, rv) (bc - 1) (bs - 4)) := rfl
theorem s_new_6 {i : Nat} : stp CE K Q rt (some (.new i, q1, 6, q3, q4)) pc ls st ((n, kd, ln), iv, rv) bc bs = (1 ≤ bc ∧ 11 ≤ bs ∧ K (pc + 3) ls (.inr n :: st) ((n + 1, u1 kd n 6, ln), iv, rv) (bc - 1) (bs - 11)) := rfl
theorem s_new_7 {i : Nat} : stp CE K Q rt (some (.new i, q1, 7, q3, q4)) pc ls st ((n, kd, ln), iv, rv) bc bs = (1 ≤ bc ∧ 5 ≤ bs ∧ K (pc + 3) ls (.inr n :: st) ((n + 1, u1 kd n 7, ln), iv, rv) (bc - 1) (bs - 5)) := rfl
theorem s_new_8 {i : Nat} : stp CE K Q rt (some (.new i, q1, 8, q3, q4)) pc ls st ((n, kd, ln), iv, rv) bc bs = (1 ≤ bc ∧ 6 ≤ bs ∧ K (pc + 3) ls (.inr n :: st) ((n + 1, u1 kd n 8, ln), iv, rv) (bc - 1) (bs - 6)) := rfl
theorem s_new_9 {i : Nat} : stp CE K Q rt (some (.new i, q1, 9, q3, q4)) pc ls st ((n, kd, ln), iv, rv) bc bs = (1 ≤ bc ∧ 5 ≤ bs ∧ K (pc + 3) ls (.inr n :: st) ((n + 1, u1 kd n 9, ln), iv, rv) (bc - 1) (bs - 5)) := rfl
theorem s_new_10 {i : Nat} : stp CE K Q rt (some (.new i, q1, 10, q3, q4)) pc ls st ((n, kd, ln), iv, rv) bc bs = (1 ≤ bc ∧ 3 ≤ bs ∧ K (pc + 3) ls (.inr n :: st) ((n + 1, u1 kd n 10, ln), iv, rv) (bc - 1) (bs - 3)) := rfl
theorem s_new_11 {i : Nat} : stp CE K Q rt (some (.new i, q1, 11, q3, q4)) pc ls st ((n, kd, ln), iv, rv) bc bs = (1 ≤ bc ∧ 15 ≤ bs ∧ K (pc + 3) ls (.inr n :: st) ((n + 1, u1 kd n 11, ln), iv, rv) (bc - 1) (bs - 15)) := rfl
theorem s_new_12 {i : Nat} : stp CE K Q rt (some (.new i, q1, 12, q3, q4)) pc ls st ((n, kd, ln), iv, rv) bc bs = (1 ≤ bc ∧ 46 ≤ bs ∧ K (pc + 3) ls (.inr n :: st) ((n + 1, u1 kd n 12, ln), iv, rv) (bc - 1) (bs - 46)) := rfl
theorem s_newarray {t : ArrayType} {x : Int32} : stp CE K Q rt (some (.newarray t, q1, q2, q3, q4)) pc ls (.inl x :: st) ((n, kd, ln), iv, rv) bc bs = (¬ x < 0 ∧ x.toNatClampNeg * 8 ≤ 536870912 ∧ 1 ≤ bc ∧ x.toNatClampNeg ≤ bs ∧ K (pc + 2) ls (.inr n :: st) ((n + 1, u1 kd n q2, u1 ln n x.toNatClampNeg), iv, rv) (bc - 1) (bs - x.toNatClampNeg)) := rfl
theorem s_anewarray {t : Nat} {x : Int32} : stp CE K Q rt (some (.anewarray t, q1, q2, q3, q4)) pc ls (.inl x :: st) ((n, kd, ln), iv, rv) bc bs = (¬ x < 0 ∧ x.toNatClampNeg * 8 ≤ 536870912 ∧ 1 ≤ bc ∧ x.toNatClampNeg ≤ bs ∧ K (pc + 3) ls (.inr n :: st) ((n + 1, u1 kd n q2, u1 ln n x.toNatClampNeg), iv, rv) (bc - 1) (bs - x.toNatClampNeg)) := rfl
theorem sg_1_0 {i a : Nat} : stp CE K Q rt (some (.getfield i, q1, 1, 0, q4)) pc ls (.inr a :: st) ((n, kd, ln), iv, rv) bc bs = (kd a = 1 ∧ K (pc + 3) ls (.inr (rv 1 a 0) :: st) ((n, kd, ln), iv, rv) bc bs) := rfl
theorem sp_1_0 {i a v : Nat} : stp CE K Q rt (some (.putfield i, q1, 1, 0, q4)) pc ls (.inr v :: .inr a :: st) ((n, kd, ln), iv, rv) bc bs = (kd a = 1 ∧ K (pc + 3) ls st ((n, kd, ln), iv, u3 rv 1 a 0 v) bc bs) := rfl
theorem sg_1_1 {i a : Nat} : stp CE K Q rt (some (.getfield i, q1, 1, 1, q4)) pc ls (.inr a :: st) ((n, kd, ln), iv, rv) bc bs = (kd a = 1 ∧ K (pc + 3) ls (.inl (iv 1 a 1) :: st) ((n, kd, ln), iv, rv) bc bs) := rfl
theorem sp_1_1 {i a : Nat} {v : Int32} : stp CE K Q rt (some (.putfield i, q1, 1, 1, q4)) pc ls (.inl v :: .inr a :: st) ((n, kd, ln), iv, rv) bc bs = (kd a = 1 ∧ K (pc + 3) ls st ((n, kd, ln), u3 iv 1 a 1 v, rv) bc bs) := by
  show (kd a = 1 ∧ (0 = 1 → v = 0 ∨ v = 1) ∧ _) = _
  simp only [Nat.zero_ne_one, false_implies, true_and]
theorem sg_2_0 {i a : Nat} : stp CE K Q rt (some (.getfield i, q1, 2, 0, q4)) pc ls (.inr a :: st) ((n, kd, ln), iv, rv) bc bs = (kd a = 2 ∧ K (pc + 3) ls (.inl (iv 2 a 0) :: st) ((n, kd, ln), iv, rv) bc bs) := rfl
theorem sp_2_0 {i a : Nat} {v : Int32} : stp CE K Q rt (some (.putfield i, q1, 2, 0, q4)) pc ls (.inl v :: .inr a :: st) ((n, kd, ln), iv, rv) bc bs = (kd a = 2 ∧ K (pc + 3) ls st ((n, kd, ln), u3 iv 2 a 0 v, rv) bc bs) := by
  show (kd a = 2 ∧ (0 = 1 → v = 0 ∨ v = 1) ∧ _) = _
  simp only [Nat.zero_ne_one, false_implies, true_and]
theorem sg_2_1 {i a : Nat} : stp CE K Q rt (some (.getfield i, q1, 2, 1, q4)) pc ls (.inr a :: st) ((n, kd, ln), iv, rv) bc bs = (kd a = 2 ∧ K (pc + 3) ls (.inl (iv 2 a 1) :: st) ((n, kd, ln), iv, rv) bc bs) := rfl
theorem sp_2_1 {i a : Nat} {v : Int32} : stp CE K Q rt (some (.putfield i, q1, 2, 1, q4)) pc ls (.inl v :: .inr a :: st) ((n, kd, ln), iv, rv) bc bs = (kd a = 2 ∧ K (pc + 3) ls st ((n, kd, ln), u3 iv 2 a 1 v, rv) bc bs) := by
  show (kd a = 2 ∧ (0 = 1 → v = 0 ∨ v = 1) ∧ _) = _
  simp only [Nat.zero_ne_one, false_implies, true_and]
theorem sg_2_2 {i a : Nat} : stp CE K Q rt (some (.getfield i, q1, 2, 2, q4)) pc ls (.inr a :: st) ((n, kd, ln), iv, rv) bc bs = (kd a = 2 ∧ K (pc + 3) ls (.inl (iv 2 a 2) :: st) ((n, kd, ln), iv, rv) bc bs) := rfl
theorem sp_2_2 {i a : Nat} {v : Int32} : stp CE K Q rt (some (.putfield i, q1, 2, 2, q4)) pc ls (.inl v :: .inr a :: st) ((n, kd, ln), iv, rv) bc bs = (kd a = 2 ∧ K (pc + 3) ls st ((n, kd, ln), u3 iv 2 a 2 v, rv) bc bs) := by
  show (kd a = 2 ∧ (0 = 1 → v = 0 ∨ v = 1) ∧ _) = _
  simp only [Nat.zero_ne_one, false_implies, true_and]
theorem sg_2_3 {i a : Nat} : stp CE K Q rt (some (.getfield i, q1, 2, 3, q4)) pc ls (.inr a :: st) ((n, kd, ln), iv, rv) bc bs = (kd a = 2 ∧ K (pc + 3) ls (.inl (iv 2 a 3) :: st) ((n, kd, ln), iv, rv) bc bs) := rfl
theorem sp_2_3 {i a : Nat} {v : Int32} : stp CE K Q rt (some (.putfield i, q1, 2, 3, q4)) pc ls (.inl v :: .inr a :: st) ((n, kd, ln), iv, rv) bc bs = (kd a = 2 ∧ K (pc + 3) ls st ((n, kd, ln), u3 iv 2 a 3 v, rv) bc bs) := by
  show (kd a = 2 ∧ (0 = 1 → v = 0 ∨ v = 1) ∧ _) = _
  simp only [Nat.zero_ne_one, false_implies, true_and]
theorem sg_2_4 {i a : Nat} : stp CE K Q rt (some (.getfield i, q1, 2, 4, q4)) pc ls (.inr a :: st) ((n, kd, ln), iv, rv) bc bs = (kd a = 2 ∧ K (pc + 3) ls (.inl (iv 2 a 4) :: st) ((n, kd, ln), iv, rv) bc bs) := rfl
theorem sp_2_4 {i a : Nat} {v : Int32} : stp CE K Q rt (some (.putfield i, q1, 2, 4, q4)) pc ls (.inl v :: .inr a :: st) ((n, kd, ln), iv, rv) bc bs = (kd a = 2 ∧ K (pc + 3) ls st ((n, kd, ln), u3 iv 2 a 4 v, rv) bc bs) := by
  show (kd a = 2 ∧ (0 = 1 → v = 0 ∨ v = 1) ∧ _) = _
  simp only [Nat.zero_ne_one, false_implies, true_and]
theorem sg_2_5 {i a : Nat} : stp CE K Q rt (some (.getfield i, q1, 2, 5, q4)) pc ls (.inr a :: st) ((n, kd, ln), iv, rv) bc bs = (kd a = 2 ∧ K (pc + 3) ls (.inl (iv 2 a 5) :: st) ((n, kd, ln), iv, rv) bc bs) := rfl
theorem sp_2_5 {i a : Nat} {v : Int32} : stp CE K Q rt (some (.putfield i, q1, 2, 5, q4)) pc ls (.inl v :: .inr a :: st) ((n, kd, ln), iv, rv) bc bs = (kd a = 2 ∧ K (pc + 3) ls st ((n, kd, ln), u3 iv 2 a 5 v, rv) bc bs) := by
  show (kd a = 2 ∧ (0 = 1 → v = 0 ∨ v = 1) ∧ _) = _
  simp only [Nat.zero_ne_one, false_implies, true_and]
theorem sg_3_0 {i a : Nat} : stp CE K Q rt (some (.getfield i, q1, 3, 0, q4)) pc ls (.inr a :: st) ((n, kd, ln), iv, rv) bc bs = (kd a = 3 ∧ K (pc + 3) ls (.inl (iv 3 a 0) :: st) ((n, kd, ln), iv, rv) bc bs) := rfl
theorem sp_3_0 {i a : Nat} {v : Int32} : stp CE K Q rt (some (.putfield i, q1, 3, 0, q4)) pc ls (.inl v :: .inr a :: st) ((n, kd, ln), iv, rv) bc bs = (kd a = 3 ∧ K (pc + 3) ls st ((n, kd, ln), u3 iv 3 a 0 v, rv) bc bs) := by
  show (kd a = 3 ∧ (0 = 1 → v = 0 ∨ v = 1) ∧ _) = _
  simp only [Nat.zero_ne_one, false_implies, true_and]
theorem sg_3_1 {i a : Nat} : stp CE K Q rt (some (.getfield i, q1, 3, 1, q4)) pc ls (.inr a :: st) ((n, kd, ln), iv, rv) bc bs = (kd a = 3 ∧ K (pc + 3) ls (.inl (iv 3 a 1) :: st) ((n, kd, ln), iv, rv) bc bs) := rfl
theorem sp_3_1 {i a : Nat} {v : Int32} : stp CE K Q rt (some (.putfield i, q1, 3, 1, q4)) pc ls (.inl v :: .inr a :: st) ((n, kd, ln), iv, rv) bc bs = (kd a = 3 ∧ K (pc + 3) ls st ((n, kd, ln), u3 iv 3 a 1 v, rv) bc bs) := by
  show (kd a = 3 ∧ (0 = 1 → v = 0 ∨ v = 1) ∧ _) = _
  simp only [Nat.zero_ne_one, false_implies, true_and]
theorem sg_3_2 {i a : Nat} : stp CE K Q rt (some (.getfield i, q1, 3, 2, q4)) pc ls (.inr a :: st) ((n, kd, ln), iv, rv) bc bs = (kd a = 3 ∧ K (pc + 3) ls (.inl (iv 3 a 2) :: st) ((n, kd, ln), iv, rv) bc bs) := rfl
theorem sp_3_2 {i a : Nat} {v : Int32} : stp CE K Q rt (some (.putfield i, q1, 3, 2, q4)) pc ls (.inl v :: .inr a :: st) ((n, kd, ln), iv, rv) bc bs = (kd a = 3 ∧ K (pc + 3) ls st ((n, kd, ln), u3 iv 3 a 2 v, rv) bc bs) := by
  show (kd a = 3 ∧ (0 = 1 → v = 0 ∨ v = 1) ∧ _) = _
  simp only [Nat.zero_ne_one, false_implies, true_and]
theorem sg_4_0 {i a : Nat} : stp CE K Q rt (some (.getfield i, q1, 4, 0, q4)) pc ls (.inr a :: st) ((n, kd, ln), iv, rv) bc bs = (kd a = 4 ∧ K (pc + 3) ls (.inl (iv 4 a 0) :: st) ((n, kd, ln), iv, rv) bc bs) := rfl
theorem sp_4_0 {i a : Nat} {v : Int32} : stp CE K Q rt (some (.putfield i, q1, 4, 0, q4)) pc ls (.inl v :: .inr a :: st) ((n, kd, ln), iv, rv) bc bs = (kd a = 4 ∧ K (pc + 3) ls st ((n, kd, ln), u3 iv 4 a 0 v, rv) bc bs) := by
  show (kd a = 4 ∧ (0 = 1 → v = 0 ∨ v = 1) ∧ _) = _
  simp only [Nat.zero_ne_one, false_implies, true_and]
theorem sg_4_1 {i a : Nat} : stp CE K Q rt (some (.getfield i, q1, 4, 1, q4)) pc ls (.inr a :: st) ((n, kd, ln), iv, rv) bc bs = (kd a = 4 ∧ K (pc + 3) ls (.inl (iv 4 a 1) :: st) ((n, kd, ln), iv, rv) bc bs) := rfl
theorem sp_4_1 {i a : Nat} {v : Int32} : stp CE K Q rt (some (.putfield i, q1, 4, 1, q4)) pc ls (.inl v :: .inr a :: st) ((n, kd, ln), iv, rv) bc bs = (kd a = 4 ∧ K (pc + 3) ls st ((n, kd, ln), u3 iv 4 a 1 v, rv) bc bs) := by
  show (kd a = 4 ∧ (0 = 1 → v = 0 ∨ v = 1) ∧ _) = _
  simp only [Nat.zero_ne_one, false_implies, true_and]
theorem sg_4_2 {i a : Nat} : stp CE K Q rt (some (.getfield i, q1, 4, 2, q4)) pc ls (.inr a :: st) ((n, kd, ln), iv, rv) bc bs = (kd a = 4 ∧ K (pc + 3) ls (.inl (iv 4 a 2) :: st) ((n, kd, ln), iv, rv) bc bs) := rfl
theorem sp_4_2 {i a : Nat} {v : Int32} : stp CE K Q rt (some (.putfield i, q1, 4, 2, q4)) pc ls (.inl v :: .inr a :: st) ((n, kd, ln), iv, rv) bc bs = (kd a = 4 ∧ K (pc + 3) ls st ((n, kd, ln), u3 iv 4 a 2 v, rv) bc bs) := by
  show (kd a = 4 ∧ (0 = 1 → v = 0 ∨ v = 1) ∧ _) = _
  simp only [Nat.zero_ne_one, false_implies, true_and]
theorem sg_4_3 {i a : Nat} : stp CE K Q rt (some (.getfield i, q1, 4, 3, q4)) pc ls (.inr a :: st) ((n, kd, ln), iv, rv) bc bs = (kd a = 4 ∧ K (pc + 3) ls (.inl (iv 4 a 3) :: st) ((n, kd, ln), iv, rv) bc bs) := rfl
theorem sp_4_3 {i a : Nat} {v : Int32} : stp CE K Q rt (some (.putfield i, q1, 4, 3, q4)) pc ls (.inl v :: .inr a :: st) ((n, kd, ln), iv, rv) bc bs = (kd a = 4 ∧ K (pc + 3) ls st ((n, kd, ln), u3 iv 4 a 3 v, rv) bc bs) := by
  show (kd a = 4 ∧ (0 = 1 → v = 0 ∨ v = 1) ∧ _) = _
  simp only [Nat.zero_ne_one, false_implies, true_and]
theorem sg_4_4 {i a : Nat} : stp CE K Q rt (some (.getfield i, q1, 4, 4, q4)) pc ls (.inr a :: st) ((n, kd, ln), iv, rv) bc bs = (kd a = 4 ∧ K (pc + 3) ls (.inl (iv 4 a 4) :: st) ((n, kd, ln), iv, rv) bc bs) := rfl
theorem sp_4_4 {i a : Nat} {v : Int32} : stp CE K Q rt (some (.putfield i, q1, 4, 4, q4)) pc ls (.inl v :: .inr a :: st) ((n, kd, ln), iv, rv) bc bs = (kd a = 4 ∧ K (pc + 3) ls st ((n, kd, ln), u3 iv 4 a 4 v, rv) bc bs) := by
  show (kd a = 4 ∧ (0 = 1 → v = 0 ∨ v = 1) ∧ _) = _
  simp only [Nat.zero_ne_one, false_implies, true_and]
theorem sg_4_5 {i a : Nat} : stp CE K Q rt (some (.getfield i, q1, 4, 5, q4)) pc ls (.inr a :: st) ((n, kd, ln), iv, rv) bc bs = (kd a = 4 ∧ K (pc + 3) ls (.inl (iv 4 a 5) :: st) ((n, kd, ln), iv, rv) bc bs) := rfl
theorem sp_4_5 {i a : Nat} {v : Int32} : stp CE K Q rt (some (.putfield i, q1, 4, 5, q4)) pc ls (.inl v :: .inr a :: st) ((n, kd, ln), iv, rv) bc bs = (kd a = 4 ∧ K (pc + 3) ls st ((n, kd, ln), u3 iv 4 a 5 v, rv) bc bs) := by
  show (kd a = 4 ∧ (0 = 1 → v = 0 ∨ v = 1) ∧ _) = _
  simp only [Nat.zero_ne_one, false_implies, true_and]
theorem sg_4_6 {i a : Nat} : stp CE K Q rt (some (.getfield i, q1, 4, 6, q4)) pc ls (.inr a :: st) ((n, kd, ln), iv, rv) bc bs = (kd a = 4 ∧ K (pc + 3) ls (.inl (iv 4 a 6) :: st) ((n, kd, ln), iv, rv) bc bs) := rfl
theorem sp_4_6 {i a : Nat} {v : Int32} : stp CE K Q rt (some (.putfield i, q1, 4, 6, q4)) pc ls (.inl v :: .inr a :: st) ((n, kd, ln), iv, rv) bc bs = (kd a = 4 ∧ K (pc + 3) ls st ((n, kd, ln), u3 iv 4 a 6 v, rv) bc bs) := by
  show (kd a = 4 ∧ (0 = 1 → v = 0 ∨ v = 1) ∧ _) = _
  simp only [Nat.zero_ne_one, false_implies, true_and]
theorem sg_4_7 {i a : Nat} : stp CE K Q rt (some (.getfield i, q1, 4, 7, q4)) pc ls (.inr a :: st) ((n, kd, ln), iv, rv) bc bs = (kd a = 4 ∧ K (pc + 3) ls (.inl (iv 4 a 7) :: st) ((n, kd, ln), iv, rv) bc bs) := rfl
theorem sp_4_7 {i a : Nat} {v : Int32} : stp CE K Q rt (some (.putfield i, q1, 4, 7, q4)) pc ls (.inl v :: .inr a :: st) ((n, kd, ln), iv, rv) bc bs = (kd a = 4 ∧ K (pc + 3) ls st ((n, kd, ln), u3 iv 4 a 7 v, rv) bc bs) := by
  show (kd a = 4 ∧ (0 = 1 → v = 0 ∨ v = 1) ∧ _) = _
  simp only [Nat.zero_ne_one, false_implies, true_and]
theorem sg_4_8 {i a : Nat} : stp CE K Q rt (some (.getfield i, q1, 4, 8, q4)) pc ls (.inr a :: st) ((n, kd, ln), iv, rv) bc bs = (kd a = 4 ∧ K (pc + 3) ls (.inl (iv 4 a 8) :: st) ((n, kd, ln), iv, rv) bc bs) := rfl
theorem sp_4_8 {i a : Nat} {v : Int32} : stp CE K Q rt (some (.putfield i, q1, 4, 8, q4)) pc ls (.inl v :: .inr a :: st) ((n, kd, ln), iv, rv) bc bs = (kd a = 4 ∧ K (pc + 3) ls st ((n, kd, ln), u3 iv 4 a 8 v, rv) bc bs) := by
  show (kd a = 4 ∧ (0 = 1 → v = 0 ∨ v = 1) ∧ _) = _
  simp only [Nat.zero_ne_one, false_implies, true_and]
theorem sg_5_0 {i a : Nat} : stp CE K Q rt (some (.getfield i, q1, 5, 0, q4)) pc ls (.inr a :: st) ((n, kd, ln), iv, rv) bc bs = (kd a = 5 ∧ K (pc + 3) ls (.inl (iv 5 a 0) :: st) ((n, kd, ln), iv, rv) bc bs) := rfl
theorem sp_5_0 {i a : Nat} {v : Int32} : stp CE K Q rt (some (.putfield i, q1, 5, 0, q4)) pc ls (.inl v :: .inr a :: st) ((n, kd, ln), iv, rv) bc bs = (kd a = 5 ∧ K (pc + 3) ls st ((n, kd, ln), u3 iv 5 a 0 v, rv) bc bs) := by
  show (kd a = 5 ∧ (0 = 1 → v = 0 ∨ v = 1) ∧ _) = _
  simp only [Nat.zero_ne_one, false_implies, true_and]
theorem sg_5_1 {i a : Nat} : stp CE K Q rt (some (.getfield i, q1, 5, 1, q4)) pc ls (.inr a :: st) ((n, kd, ln), iv, rv) bc bs = (kd a = 5 ∧ K (pc + 3) ls (.inl (iv 5 a 1) :: st) ((n, kd, ln), iv, rv) bc bs) := rfl
theorem sp_5_1 {i a : Nat} {v : Int32} : stp CE K Q rt (some (.putfield i, q1, 5, 1, q4)) pc ls (.inl v :: .inr a :: st) ((n, kd, ln), iv, rv) bc bs = (kd a = 5 ∧ K (pc + 3) ls st ((n, kd, ln), u3 iv 5 a 1 v, rv) bc bs) := by
  show (kd a = 5 ∧ (0 = 1 → v = 0 ∨ v = 1) ∧ _) = _
  simp only [Nat.zero_ne_one, false_implies, true_and]
theorem sg_5_2 {i a : Nat} : stp CE K Q rt (some (.getfield i, q1, 5, 2, q4)) pc ls (.inr a :: st) ((n, kd, ln), iv, rv) bc bs = (kd a = 5 ∧ K (pc + 3) ls (.inl (iv 5 a 2) :: st) ((n, kd, ln), iv, rv) bc bs) := rfl
theorem sp_5_2 {i a : Nat} {v : Int32} : stp CE K Q rt (some (.putfield i, q1, 5, 2, q4)) pc ls (.inl v :: .inr a :: st) ((n, kd, ln), iv, rv) bc bs = (kd a = 5 ∧ K (pc + 3) ls st ((n, kd, ln), u3 iv 5 a 2 v, rv) bc bs) := by
  show (kd a = 5 ∧ (0 = 1 → v = 0 ∨ v = 1) ∧ _) = _
  simp only [Nat.zero_ne_one, false_implies, true_and]
theorem sg_5_3 {i a : Nat} : stp CE K Q rt (some (.getfield i, q1, 5, 3, q4)) pc ls (.inr a :: st) ((n, kd, ln), iv, rv) bc bs = (kd a = 5 ∧ K (pc + 3) ls (.inl (iv 5 a 3) :: st) ((n, kd, ln), iv, rv) bc bs) := rfl
theorem sp_5_3 {i a : Nat} {v : Int32} : stp CE K Q rt (some (.putfield i, q1, 5, 3, q4)) pc ls (.inl v :: .inr a :: st) ((n, kd, ln), iv, rv) bc bs = (kd a = 5 ∧ K (pc + 3) ls st ((n, kd, ln), u3 iv 5 a 3 v, rv) bc bs) := by
  show (kd a = 5 ∧ (0 = 1 → v = 0 ∨ v = 1) ∧ _) = _
  simp only [Nat.zero_ne_one, false_implies, true_and]
theorem sg_6_0 {i a : Nat} : stp CE K Q rt (some (.getfield i, q1, 6, 0, q4)) pc ls (.inr a :: st) ((n, kd, ln), iv, rv) bc bs = (kd a = 6 ∧ K (pc + 3) ls (.inr (rv 6 a 0) :: st) ((n, kd, ln), iv, rv) bc bs) := rfl
theorem sp_6_0 {i a v : Nat} : stp CE K Q rt (some (.putfield i, q1, 6, 0, q4)) pc ls (.inr v :: .inr a :: st) ((n, kd, ln), iv, rv) bc bs = (kd a = 6 ∧ K (pc + 3) ls st ((n, kd, ln), iv, u3 rv 6 a 0 v) bc bs) := rfl
theorem sg_6_1 {i a : Nat} : stp CE K Q rt (some (.getfield i, q1, 6, 1, q4)) pc ls (.inr a :: st) ((n, kd, ln), iv, rv) bc bs = (kd a = 6 ∧ K (pc + 3) ls (.inr (rv 6 a 1) :: st) ((n, kd, ln), iv, rv) bc bs) := rfl
theorem sp_6_1 {i a v : Nat} : stp CE K Q rt (some (.putfield i, q1, 6, 1, q4)) pc ls (.inr v :: .inr a :: st) ((n, kd, ln), iv, rv) bc bs = (kd a = 6 ∧ K (pc + 3) ls st ((n, kd, ln), iv, u3 rv 6 a 1 v) bc bs) := rfl
theorem sg_6_2 {i a : Nat} : stp CE K Q rt (some (.getfield i, q1, 6, 2, q4)) pc ls (.inr a :: st) ((n, kd, ln), iv, rv) bc bs = (kd a = 6 ∧ K (pc + 3) ls (.inr (rv 6 a 2) :: st) ((n, kd, ln), iv, rv) bc bs) := rfl
theorem sp_6_2 {i a v : Nat} : stp CE K Q rt (some (.putfield i, q1, 6, 2, q4)) pc ls (.inr v :: .inr a :: st) ((n, kd, ln), iv, rv) bc bs = (kd a = 6 ∧ K (pc + 3) ls st ((n, kd, ln), iv, u3 rv 6 a 2 v) bc bs) := rfl
theorem sg_6_3 {i a : Nat} : stp CE K Q rt (some (.getfield i, q1, 6, 3, q4)) pc ls (.inr a :: st) ((n, kd, ln), iv, rv) bc bs = (kd a = 6 ∧ K (pc + 3) ls (.inr (rv 6 a 3) :: st) ((n, kd, ln), iv, rv) bc bs) := rfl
theorem sp_6_3 {i a v : Nat} : stp CE K Q rt (some (.putfield i, q1, 6, 3, q4)) pc ls (.inr v :: .inr a :: st) ((n, kd, ln), iv, rv) bc bs = (kd a = 6 ∧ K (pc + 3) ls st ((n, kd, ln), iv, u3 rv 6 a 3 v) bc bs) := rfl
theorem sg_6_4 {i a : Nat} : stp CE K Q rt (some (.getfield i, q1, 6, 4, q4)) pc ls (.inr a :: st) ((n, kd, ln), iv, rv) bc bs = (kd a = 6 ∧ K (pc + 3) ls (.inr (rv 6 a 4) :: st) ((n, kd, ln), iv, rv) bc bs) := rfl
theorem sp_6_4 {i a v : Nat} : stp CE K Q rt (some (.putfield i, q1, 6, 4, q4)) pc ls (.inr v :: .inr a :: st) ((n, kd, ln), iv, rv) bc bs = (kd a = 6 ∧ K (pc + 3) ls st ((n, kd, ln), iv, u3 rv 6 a 4 v) bc bs) := rfl
theorem sg_6_5 {i a : Nat} : stp CE K Q rt (some (.getfield i, q1, 6, 5, q4)) pc ls (.inr a :: st) ((n, kd, ln), iv, rv) bc bs = (kd a = 6 ∧ K (pc + 3) ls (.inr (rv 6 a 5) :: st) ((n, kd, ln), iv, rv) bc bs) := rfl
theorem sp_6_5 {i a v : Nat} : stp CE K Q rt (some (.putfield i, q1, 6, 5, q4)) pc ls (.inr v :: .inr a :: st) ((n, kd, ln), iv, rv) bc bs = (kd a = 6 ∧ K (pc + 3) ls st ((n, kd, ln), iv, u3 rv 6 a 5 v) bc bs) := rfl
theorem sg_6_6 {i a : Nat} : stp CE K Q rt (some (.getfield i, q1, 6, 6, q4)) pc ls (.inr a :: st) ((n, kd, ln), iv, rv) bc bs = (kd a = 6 ∧ K (pc + 3) ls (.inr (rv 6 a 6) :: st) ((n, kd, ln), iv, rv) bc bs) := rfl
theorem sp_6_6 {i a v : Nat} : stp CE K Q rt (some (.putfield i, q1, 6, 6, q4)) pc ls (.inr v :: .inr a :: st) ((n, kd, ln), iv, rv) bc bs = (kd a = 6 ∧ K (pc + 3) ls st ((n, kd, ln), iv, u3 rv 6 a 6 v) bc bs) := rfl
theorem sg_6_7 {i a : Nat} : stp CE K Q rt (some (.getfield i, q1, 6, 7, q4)) pc ls (.inr a :: st) ((n, kd, ln), iv, rv) bc bs = (kd a = 6 ∧ K (pc + 3) ls (.inr (rv 6 a 7) :: st) ((n, kd, ln), iv, rv) bc bs) := rfl
theorem sp_6_7 {i a v : Nat} : stp CE K Q rt (some (.putfield i, q1, 6, 7, q4)) pc ls (.inr v :: .inr a :: st) ((n, kd, ln), iv, rv) bc bs = (kd a = 6 ∧ K (pc + 3) ls st ((n, kd, ln), iv, u3 rv 6 a 7 v) bc bs) := rfl
theorem sg_6_8 {i a : Nat} : stp CE K Q rt (some (.getfield i, q1, 6, 8, q4)) pc ls (.inr a :: st) ((n, kd, ln), iv, rv) bc bs = (kd a = 6 ∧ K (pc + 3) ls (.inl (iv 6 a 8) :: st) ((n, kd, ln), iv, rv) bc bs) := rfl
theorem sp_6_8 {i a : Nat} {v : Int32} : stp CE K Q rt (some (.putfield i, q1, 6, 8, q4)) pc ls (.inl v :: .inr a :: st) ((n, kd, ln), iv, rv) bc bs = (kd a = 6 ∧ K (pc + 3) ls st ((n, kd, ln), u3 iv 6 a 8 v, rv) bc bs) := by
  show (kd a = 6 ∧ (0 = 1 → v = 0 ∨ v = 1) ∧ _) = _
  simp only [Nat.zero_ne_one, false_implies, true_and]
theorem sg_6_9 {i a : Nat} : stp CE K Q rt (some (.getfield i, q1, 6, 9, q4)) pc ls (.inr a :: st) ((n, kd, ln), iv, rv) bc bs = (kd a = 6 ∧ K (pc + 3) ls (.inl (iv 6 a 9) :: st) ((n, kd, ln), iv, rv) bc bs) := rfl
theorem sp_6_9 {i a : Nat} {v : Int32} : stp CE K Q rt (some (.putfield i, q1, 6, 9, q4)) pc ls (.inl v :: .inr a :: st) ((n, kd, ln), iv, rv) bc bs = (kd a = 6 ∧ K (pc + 3) ls st ((n, kd, ln), u3 iv 6 a 9 v, rv) bc bs) := by
  show (kd a = 6 ∧ (0 = 1 → v = 0 ∨ v = 1) ∧ _) = _
  simp only [Nat.zero_ne_one, false_implies, true_and]
theorem sg_6_10 {i a : Nat} : stp CE K Q rt (some (.getfield i, q1, 6, 10, q4)) pc ls (.inr a :: st) ((n, kd, ln), iv, rv) bc bs = (kd a = 6 ∧ K (pc + 3) ls (.inl (iv 6 a 10) :: st) ((n, kd, ln), iv, rv) bc bs) := rfl
theorem sp_6_10 {i a : Nat} {v : Int32} : stp CE K Q rt (some (.putfield i, q1, 6, 10, q4)) pc ls (.inl v :: .inr a :: st) ((n, kd, ln), iv, rv) bc bs = (kd a = 6 ∧ K (pc + 3) ls st ((n, kd, ln), u3 iv 6 a 10 v, rv) bc bs) := by
  show (kd a = 6 ∧ (0 = 1 → v = 0 ∨ v = 1) ∧ _) = _
  simp only [Nat.zero_ne_one, false_implies, true_and]
theorem sg_7_0 {i a : Nat} : stp CE K Q rt (some (.getfield i, q1, 7, 0, q4)) pc ls (.inr a :: st) ((n, kd, ln), iv, rv) bc bs = (kd a = 7 ∧ K (pc + 3) ls (.inl (iv 7 a 0) :: st) ((n, kd, ln), iv, rv) bc bs) := rfl
theorem sp_7_0 {i a : Nat} {v : Int32} : stp CE K Q rt (some (.putfield i, q1, 7, 0, q4)) pc ls (.inl v :: .inr a :: st) ((n, kd, ln), iv, rv) bc bs = (kd a = 7 ∧ K (pc + 3) ls st ((n, kd, ln), u3 iv 7 a 0 v, rv) bc bs) := by
  show (kd a = 7 ∧ (0 = 1 → v = 0 ∨ v = 1) ∧ _) = _
  simp only [Nat.zero_ne_one, false_implies, true_and]
theorem sg_7_1 {i a : Nat} : stp CE K Q rt (some (.getfield i, q1, 7, 1, q4)) pc ls (.inr a :: st) ((n, kd, ln), iv, rv) bc bs = (kd a = 7 ∧ K (pc + 3) ls (.inl (iv 7 a 1) :: st) ((n, kd, ln), iv, rv) bc bs) := rfl
theorem sp_7_1 {i a : Nat} {v : Int32} : stp CE K Q rt (some (.putfield i, q1, 7, 1, q4)) pc ls (.inl v :: .inr a :: st) ((n, kd, ln), iv, rv) bc bs = (kd a = 7 ∧ K (pc + 3) ls st ((n, kd, ln), u3 iv 7 a 1 v, rv) bc bs) := by
  show (kd a = 7 ∧ (0 = 1 → v = 0 ∨ v = 1) ∧ _) = _
  simp only [Nat.zero_ne_one, false_implies, true_and]
theorem sg_7_2 {i a : Nat} : stp CE K Q rt (some (.getfield i, q1, 7, 2, q4)) pc ls (.inr a :: st) ((n, kd, ln), iv, rv) bc bs = (kd a = 7 ∧ K (pc + 3) ls (.inl (iv 7 a 2) :: st) ((n, kd, ln), iv, rv) bc bs) := rfl
theorem sp_7_2 {i a : Nat} {v : Int32} : stp CE K Q rt (some (.putfield i, q1, 7, 2, q4)) pc ls (.inl v :: .inr a :: st) ((n, kd, ln), iv, rv) bc bs = (kd a = 7 ∧ K (pc + 3) ls st ((n, kd, ln), u3 iv 7 a 2 v, rv) bc bs) := by
  show (kd a = 7 ∧ (0 = 1 → v = 0 ∨ v = 1) ∧ _) = _
  simp only [Nat.zero_ne_one, false_implies, true_and]
theorem sg_7_3 {i a : Nat} : stp CE K Q rt (some (.getfield i, q1, 7, 3, q4)) pc ls (.inr a :: st) ((n, kd, ln), iv, rv) bc bs = (kd a = 7 ∧ K (pc + 3) ls (.inl (iv 7 a 3) :: st) ((n, kd, ln), iv, rv) bc bs) := rfl
theorem sp_7_3 {i a : Nat} {v : Int32} : stp CE K Q rt (some (.putfield i, q1, 7, 3, q4)) pc ls (.inl v :: .inr a :: st) ((n, kd, ln), iv, rv) bc bs = (kd a = 7 ∧ K (pc + 3) ls st ((n, kd, ln), u3 iv 7 a 3 v, rv) bc bs) := by
  show (kd a = 7 ∧ (0 = 1 → v = 0 ∨ v = 1) ∧ _) = _
  simp only [Nat.zero_ne_one, false_implies, true_and]
theorem sg_7_4 {i a : Nat} : stp CE K Q rt (some (.getfield i, q1, 7, 4, q4)) pc ls (.inr a :: st) ((n, kd, ln), iv, rv) bc bs = (kd a = 7 ∧ K (pc + 3) ls (.inl (iv 7 a 4) :: st) ((n, kd, ln), iv, rv) bc bs) := rfl
theorem sp_7_4 {i a : Nat} {v : Int32} : stp CE K Q rt (some (.putfield i, q1, 7, 4, q4)) pc ls (.inl v :: .inr a :: st) ((n, kd, ln), iv, rv) bc bs = (kd a = 7 ∧ K (pc + 3) ls st ((n, kd, ln), u3 iv 7 a 4 v, rv) bc bs) := by
  show (kd a = 7 ∧ (0 = 1 → v = 0 ∨ v = 1) ∧ _) = _
  simp only [Nat.zero_ne_one, false_implies, true_and]
theorem sg_8_0 {i a : Nat} : stp CE K Q rt (some (.getfield i, q1, 8, 0, q4)) pc ls (.inr a :: st) ((n, kd, ln), iv, rv) bc bs = (kd a = 8 ∧ K (pc + 3) ls (.inr (rv 8 a 0) :: st) ((n, kd, ln), iv, rv) bc bs) := rfl
theorem sp_8_0 {i a v : Nat} : stp CE K Q rt (some (.putfield i, q1, 8, 0, q4)) pc ls (.inr v :: .inr a :: st) ((n, kd, ln), iv, rv) bc bs = (kd a = 8 ∧ K (pc + 3) ls st ((n, kd, ln), iv, u3 rv 8 a 0 v) bc bs) := rfl
theorem sg_8_1 {i a : Nat} : stp CE K Q rt (some (.getfield i, q1, 8, 1, q4)) pc ls (.inr a :: st) ((n, kd, ln), iv, rv) bc bs = (kd a = 8 ∧ K (pc + 3) ls (.inr (rv 8 a 1) :: st) ((n, kd, ln), iv, rv) bc bs) := rfl
theorem sp_8_1 {i a v : Nat} : stp CE K Q rt (some (.putfield i, q1, 8, 1, q4)) pc ls (.inr v :: .inr a :: st) ((n, kd, ln), iv, rv) bc bs = (kd a = 8 ∧ K (pc + 3) ls st ((n, kd, ln), iv, u3 rv 8 a 1 v) bc bs) := rfl
theorem sg_8_2 {i a : Nat} : stp CE K Q rt (some (.getfield i, q1, 8, 2, q4)) pc ls (.inr a :: st) ((n, kd, ln), iv, rv) bc bs = (kd a = 8 ∧ K (pc + 3) ls (.inl (iv 8 a 2) :: st) ((n, kd, ln), iv, rv) bc bs) := rfl
theorem sp_8_2 {i a : Nat} {v : Int32} : stp CE K Q rt (some (.putfield i, q1, 8, 2, q4)) pc ls (.inl v :: .inr a :: st) ((n, kd, ln), iv, rv) bc bs = (kd a = 8 ∧ K (pc + 3) ls st ((n, kd, ln), u3 iv 8 a 2 v, rv) bc bs) := by
  show (kd a = 8 ∧ (0 = 1 → v = 0 ∨ v = 1) ∧ _) = _
  simp only [Nat.zero_ne_one, false_implies, true_and]
theorem sg_8_3 {i a : Nat} : stp CE K Q rt (some (.getfield i, q1, 8, 3, q4)) pc ls (.inr a :: st) ((n, kd, ln), iv, rv) bc bs = (kd a = 8 ∧ K (pc + 3) ls (.inr (rv 8 a 3) :: st) ((n, kd, ln), iv, rv) bc bs) := rfl
theorem sp_8_3 {i a v : Nat} : stp CE K Q rt (some (.putfield i, q1, 8, 3, q4)) pc ls (.inr v :: .inr a :: st) ((n, kd, ln), iv, rv) bc bs = (kd a = 8 ∧ K (pc + 3) ls st ((n, kd, ln), iv, u3 rv 8 a 3 v) bc bs) := rfl
theorem sg_8_4 {i a : Nat} : stp CE K Q rt (some (.getfield i, q1, 8, 4, q4)) pc ls (.inr a :: st) ((n, kd, ln), iv, rv) bc bs = (kd a = 8 ∧ K (pc + 3) ls (.inl (iv 8 a 4) :: st) ((n, kd, ln), iv, rv) bc bs) := rfl
theorem sp_8_4 {i a : Nat} {v : Int32} : stp CE K Q rt (some (.putfield i, q1, 8, 4, q4)) pc ls (.inl v :: .inr a :: st) ((n, kd, ln), iv, rv) bc bs = (kd a = 8 ∧ K (pc + 3) ls st ((n, kd, ln), u3 iv 8 a 4 v, rv) bc bs) := by
  show (kd a = 8 ∧ (0 = 1 → v = 0 ∨ v = 1) ∧ _) = _
  simp only [Nat.zero_ne_one, false_implies, true_and]
theorem sg_8_5 {i a : Nat} : stp CE K Q rt (some (.getfield i, q1, 8, 5, q4)) pc ls (.inr a :: st) ((n, kd, ln), iv, rv) bc bs = (kd a = 8 ∧ K (pc + 3) ls (.inl (iv 8 a 5) :: st) ((n, kd, ln), iv, rv) bc bs) := rfl
theorem sp_8_5 {i a : Nat} {v : Int32} : stp CE K Q rt (some (.putfield i, q1, 8, 5, q4)) pc ls (.inl v :: .inr a :: st) ((n, kd, ln), iv, rv) bc bs = (kd a = 8 ∧ K (pc + 3) ls st ((n, kd, ln), u3 iv 8 a 5 v, rv) bc bs) := by
  show (kd a = 8 ∧ (0 = 1 → v = 0 ∨ v = 1) ∧ _) = _
  simp only [Nat.zero_ne_one, false_implies, true_and]
theorem sg_9_0 {i a : Nat} : stp CE K Q rt (some (.getfield i, q1, 9, 0, q4)) pc ls (.inr a :: st) ((n, kd, ln), iv, rv) bc bs = (kd a = 9 ∧ K (pc + 3) ls (.inl (iv 9 a 0) :: st) ((n, kd, ln), iv, rv) bc bs) := rfl
theorem sp_9_0 {i a : Nat} {v : Int32} : stp CE K Q rt (some (.putfield i, q1, 9, 0, q4)) pc ls (.inl v :: .inr a :: st) ((n, kd, ln), iv, rv) bc bs = (kd a = 9 ∧ K (pc + 3) ls st ((n, kd, ln), u3 iv 9 a 0 v, rv) bc bs) := by
  show (kd a = 9 ∧ (0 = 1 → v = 0 ∨ v = 1) ∧ _) = _
  simp only [Nat.zero_ne_one, false_implies, true_and]
theorem sg_9_1 {i a : Nat} : stp CE K Q rt (some (.getfield i, q1, 9, 1, q4)) pc ls (.inr a :: st) ((n, kd, ln), iv, rv) bc bs = (kd a = 9 ∧ K (pc + 3) ls (.inl (iv 9 a 1) :: st) ((n, kd, ln), iv, rv) bc bs) := rfl
theorem sp_9_1 {i a : Nat} {v : Int32} : stp CE K Q rt (some (.putfield i, q1, 9, 1, q4)) pc ls (.inl v :: .inr a :: st) ((n, kd, ln), iv, rv) bc bs = (kd a = 9 ∧ K (pc + 3) ls st ((n, kd, ln), u3 iv 9 a 1 v, rv) bc bs) := by
  show (kd a = 9 ∧ (0 = 1 → v = 0 ∨ v = 1) ∧ _) = _
  simp only [Nat.zero_ne_one, false_implies, true_and]
theorem sg_9_2 {i a : Nat} : stp CE K Q rt (some (.getfield i, q1, 9, 2, q4)) pc ls (.inr a :: st) ((n, kd, ln), iv, rv) bc bs = (kd a = 9 ∧ K (pc + 3) ls (.inl (iv 9 a 2) :: st) ((n, kd, ln), iv, rv) bc bs) := rfl
theorem sp_9_2 {i a : Nat} {v : Int32} : stp CE K Q rt (some (.putfield i, q1, 9, 2, q4)) pc ls (.inl v :: .inr a :: st) ((n, kd, ln), iv, rv) bc bs = (kd a = 9 ∧ K (pc + 3) ls st ((n, kd, ln), u3 iv 9 a 2 v, rv) bc bs) := by
  show (kd a = 9 ∧ (0 = 1 → v = 0 ∨ v = 1) ∧ _) = _
  simp only [Nat.zero_ne_one, false_implies, true_and]
theorem sg_9_3 {i a : Nat} : stp CE K Q rt (some (.getfield i, q1, 9, 3, q4)) pc ls (.inr a :: st) ((n, kd, ln), iv, rv) bc bs = (kd a = 9 ∧ K (pc + 3) ls (.inl (iv 9 a 3) :: st) ((n, kd, ln), iv, rv) bc bs) := rfl
theorem sp_9_3 {i a : Nat} {v : Int32} : stp CE K Q rt (some (.putfield i, q1, 9, 3, q4)) pc ls (.inl v :: .inr a :: st) ((n, kd, ln), iv, rv) bc bs = (kd a = 9 ∧ K (pc + 3) ls st ((n, kd, ln), u3 iv 9 a 3 v, rv) bc bs) := by
  show (kd a = 9 ∧ (0 = 1 → v = 0 ∨ v = 1) ∧ _) = _
  simp only [Nat.zero_ne_one, false_implies, true_and]
theorem sg_9_4 {i a : Nat} : stp CE K Q rt (some (.getfield i, q1, 9, 4, q4)) pc ls (.inr a :: st) ((n, kd, ln), iv, rv) bc bs = (kd a = 9 ∧ K (pc + 3) ls (.inl (iv 9 a 4) :: st) ((n, kd, ln), iv, rv) bc bs) := rfl
theorem sp_9_4 {i a : Nat} {v : Int32} : stp CE K Q rt (some (.putfield i, q1, 9, 4, q4)) pc ls (.inl v :: .inr a :: st) ((n, kd, ln), iv, rv) bc bs = (kd a = 9 ∧ (v = 0 ∨ v = 1) ∧ K (pc + 3) ls st ((n, kd, ln), u3 iv 9 a 4 v, rv) bc bs) := by
  show (kd a = 9 ∧ (1 = 1 → v = 0 ∨ v = 1) ∧ _) = _
  simp only [forall_const]
theorem sg_10_0 {i a : Nat} : stp CE K Q rt (some (.getfield i, q1, 10, 0, q4)) pc ls (.inr a :: st) ((n, kd, ln), iv, rv) bc bs = (kd a = 10 ∧ K (pc + 3) ls (.inl (iv 10 a 0) :: st) ((n, kd, ln), iv, rv) bc bs) := rfl
theorem sp_10_0 {i a : Nat} {v : Int32} : stp CE K Q rt (some (.putfield i, q1, 10, 0, q4)) pc ls (.inl v :: .inr a :: st) ((n, kd, ln), iv, rv) bc bs = (kd a = 10 ∧ K (pc + 3) ls st ((n, kd, ln), u3 iv 10 a 0 v, rv) bc bs) := by
  show (kd a = 10 ∧ (0 = 1 → v = 0 ∨ v = 1) ∧ _) = _
  simp only [Nat.zero_ne_one, false_implies, true_and]
theorem sg_10_1 {i a : Nat} : stp CE K Q rt (some (.getfield i, q1, 10, 1, q4)) pc ls (.inr a :: st) ((n, kd, ln), iv, rv) bc bs = (kd a = 10 ∧ K (pc + 3) ls (.inl (iv 10 a 1) :: st) ((n, kd, ln), iv, rv) bc bs) := rfl
theorem sp_10_1 {i a : Nat} {v : Int32} : stp CE K Q rt (some (.putfield i, q1, 10, 1, q4)) pc ls (.inl v :: .inr a :: st) ((n, kd, ln), iv, rv) bc bs = (kd a = 10 ∧ K (pc + 3) ls st ((n, kd, ln), u3 iv 10 a 1 v, rv) bc bs) := by
  show (kd a = 10 ∧ (0 = 1 → v = 0 ∨ v = 1) ∧ _) = _
  simp only [Nat.zero_ne_one, false_implies, true_and]
theorem sg_10_2 {i a : Nat} : stp CE K Q rt (some (.getfield i, q1, 10, 2, q4)) pc ls (.inr a :: st) ((n, kd, ln), iv, rv) bc bs = (kd a = 10 ∧ K (pc + 3) ls (.inl (iv 10 a 2) :: st) ((n, kd, ln), iv, rv) bc bs) := rfl
theorem sp_10_2 {i a : Nat} {v : Int32} : stp CE K Q rt (some (.putfield i, q1, 10, 2, q4)) pc ls (.inl v :: .inr a :: st) ((n, kd, ln), iv, rv) bc bs = (kd a = 10 ∧ K (pc + 3) ls st ((n, kd, ln), u3 iv 10 a 2 v, rv) bc bs) := by
  show (kd a = 10 ∧ (0 = 1 → v = 0 ∨ v = 1) ∧ _) = _
  simp only [Nat.zero_ne_one, false_implies, true_and]
theorem sg_11_0 {i a : Nat} : stp CE K Q rt (some (.getfield i, q1, 11, 0, q4)) pc ls (.inr a :: st) ((n, kd, ln), iv, rv) bc bs = (kd a = 11 ∧ K (pc + 3) ls (.inr (rv 11 a 0) :: st) ((n, kd, ln), iv, rv) bc bs) := rfl
theorem sp_11_0 {i a v : Nat} : stp CE K Q rt (some (.putfield i, q1, 11, 0, q4)) pc ls (.inr v :: .inr a :: st) ((n, kd, ln), iv, rv) bc bs = (kd a = 11 ∧ K (pc + 3) ls st ((n, kd, ln), iv, u3 rv 11 a 0 v) bc bs) := rfl
theorem sg_11_1 {i a : Nat} : stp CE K Q rt (some (.getfield i, q1, 11, 1, q4)) pc ls (.inr a :: st) ((n, kd, ln), iv, rv) bc bs = (kd a = 11 ∧ K (pc + 3) ls (.inr (rv 11 a 1) :: st) ((n, kd, ln), iv, rv) bc bs) := rfl
theorem sp_11_1 {i a v : Nat} : stp CE K Q rt (some (.putfield i, q1, 11, 1, q4)) pc ls (.inr v :: .inr a :: st) ((n, kd, ln), iv, rv) bc bs = (kd a = 11 ∧ K (pc + 3) ls st ((n, kd, ln), iv, u3 rv 11 a 1 v) bc bs) := rfl
theorem sg_11_2 {i a : Nat} : stp CE K Q rt (some (.getfield i, q1, 11, 2, q4)) pc ls (.inr a :: st) ((n, kd, ln), iv, rv) bc bs = (kd a = 11 ∧ K (pc + 3) ls (.inr (rv 11 a 2) :: st) ((n, kd, ln), iv, rv) bc bs) := rfl
theorem sp_11_2 {i a v : Nat} : stp CE K Q rt (some (.putfield i, q1, 11, 2, q4)) pc ls (.inr v :: .inr a :: st) ((n, kd, ln), iv, rv) bc bs = (kd a = 11 ∧ K (pc + 3) ls st ((n, kd, ln), iv, u3 rv 11 a 2 v) bc bs) := rfl
theorem sg_11_3 {i a : Nat} : stp CE K Q rt (some (.getfield i, q1, 11, 3, q4)) pc ls (.inr a :: st) ((n, kd, ln), iv, rv) bc bs = (kd a = 11 ∧ K (pc + 3) ls (.inr (rv 11 a 3) :: st) ((n, kd, ln), iv, rv) bc bs) := rfl
theorem sp_11_3 {i a v : Nat} : stp CE K Q rt (some (.putfield i, q1, 11, 3, q4)) pc ls (.inr v :: .inr a :: st) ((n, kd, ln), iv, rv) bc bs = (kd a = 11 ∧ K (pc + 3) ls st ((n, kd, ln), iv, u3 rv 11 a 3 v) bc bs) := rfl
theorem sg_11_4 {i a : Nat} : stp CE K Q rt (some (.getfield i, q1, 11, 4, q4)) pc ls (.inr a :: st) ((n, kd, ln), iv, rv) bc bs = (kd a = 11 ∧ K (pc + 3) ls (.inr (rv 11 a 4) :: st) ((n, kd, ln), iv, rv) bc bs) := rfl
theorem sp_11_4 {i a v : Nat} : stp CE K Q rt (some (.putfield i, q1, 11, 4, q4)) pc ls (.inr v :: .inr a :: st) ((n, kd, ln), iv, rv) bc bs = (kd a = 11 ∧ K (pc + 3) ls st ((n, kd, ln), iv, u3 rv 11 a 4 v) bc bs) := rfl
theorem sg_11_5 {i a : Nat} : stp CE K Q rt (some (.getfield i, q1, 11, 5, q4)) pc ls (.inr a :: st) ((n, kd, ln), iv, rv) bc bs = (kd a = 11 ∧ K (pc + 3) ls (.inr (rv 11 a 5) :: st) ((n, kd, ln), iv, rv) bc bs) := rfl
theorem sp_11_5 {i a v : Nat} : stp CE K Q rt (some (.putfield i, q1, 11, 5, q4)) pc ls (.inr v :: .inr a :: st) ((n, kd, ln), iv, rv) bc bs = (kd a = 11 ∧ K (pc + 3) ls st ((n, kd, ln), iv, u3 rv 11 a 5 v) bc bs) := rfl
theorem sg_11_6 {i a : Nat} : stp CE K Q rt (some (.getfield i, q1, 11, 6, q4)) pc ls (.inr a :: st) ((n, kd, ln), iv, rv) bc bs = (kd a = 11 ∧ K (pc + 3) ls (.inr (rv 11 a 6) :: st) ((n, kd, ln), iv, rv) bc bs) := rfl
theorem sp_11_6 {i a v : Nat} : stp CE K Q rt (some (.putfield i, q1, 11, 6, q4)) pc ls (.inr v :: .inr a :: st) ((n, kd, ln), iv, rv) bc bs = (kd a = 11 ∧ K (pc + 3) ls st ((n, kd, ln), iv, u3 rv 11 a 6 v) bc bs) := rfl
theorem sg_11_7 {i a : Nat} : stp CE K Q rt (some (.getfield i, q1, 11, 7, q4)) pc ls (.inr a :: st) ((n, kd, ln), iv, rv) bc bs = (kd a = 11 ∧ K (pc + 3) ls (.inr (rv 11 a 7) :: st) ((n, kd, ln), iv, rv) bc bs) := rfl
theorem sp_11_7 {i a v : Nat} : stp CE K Q rt (some (.putfield i, q1, 11, 7, q4)) pc ls (.inr v :: .inr a :: st) ((n, kd, ln), iv, rv) bc bs = (kd a = 11 ∧ K (pc + 3) ls st ((n, kd, ln), iv, u3 rv 11 a 7 v) bc bs) := rfl
theorem sg_11_8 {i a : Nat} : stp CE K Q rt (some (.getfield i, q1, 11, 8, q4)) pc ls (.inr a :: st) ((n, kd, ln), iv, rv) bc bs = (kd a = 11 ∧ K (pc + 3) ls (.inr (rv 11 a 8) :: st) ((n, kd, ln), iv, rv) bc bs) := rfl
theorem sp_11_8 {i a v : Nat} : stp CE K Q rt (some (.putfield i, q1, 11, 8, q4)) pc ls (.inr v :: .inr a :: st) ((n, kd, ln), iv, rv) bc bs = (kd a = 11 ∧ K (pc + 3) ls st ((n, kd, ln), iv, u3 rv 11 a 8 v) bc bs) := rfl
theorem sg_11_9 {i a : Nat} : stp CE K Q rt (some (.getfield i, q1, 11, 9, q4)) pc ls (.inr a :: st) ((n, kd, ln), iv, rv) bc bs = (kd a = 11 ∧ K (pc + 3) ls (.inl (iv 11 a 9) :: st) ((n, kd, ln), iv, rv) bc bs) := rfl
theorem sp_11_9 {i a : Nat} {v : Int32} : stp CE K Q rt (some (.putfield i, q1, 11, 9, q4)) pc ls (.inl v :: .inr a :: st) ((n, kd, ln), iv, rv) bc bs = (kd a = 11 ∧ K (pc + 3) ls st ((n, kd, ln), u3 iv 11 a 9 v, rv) bc bs) := by
  show (kd a = 11 ∧ (0 = 1 → v = 0 ∨ v = 1) ∧ _) = _
  simp only [Nat.zero_ne_one, false_implies, true_and]
theorem sg_11_10 {i a : Nat} : stp CE K Q rt (some (.getfield i, q1, 11, 10, q4)) pc ls (.inr a :: st) ((n, kd, ln), iv, rv) bc bs = (kd a = 11 ∧ K (pc + 3) ls (.inl (iv 11 a 10) :: st) ((n, kd, ln), iv, rv) bc bs) := rfl
theorem sp_11_10 {i a : Nat} {v : Int32} : stp CE K Q rt (some (.putfield i, q1, 11, 10, q4)) pc ls (.inl v :: .inr a :: st) ((n, kd, ln), iv, rv) bc bs = (kd a = 11 ∧ K (pc + 3) ls st ((n, kd, ln), u3 iv 11 a 10 v, rv) bc bs) := by
  show (kd a = 11 ∧ (0 = 1 → v = 0 ∨ v = 1) ∧ _) = _
  simp only [Nat.zero_ne_one, false_implies, true_and]
theorem sg_11_11 {i a : Nat} : stp CE K Q rt (some (.getfield i, q1, 11, 11, q4)) pc ls (.inr a :: st) ((n, kd, ln), iv, rv) bc bs = (kd a = 11 ∧ K (pc + 3) ls (.inl (iv 11 a 11) :: st) ((n, kd, ln), iv, rv) bc bs) := rfl
theorem sp_11_11 {i a : Nat} {v : Int32} : stp CE K Q rt (some (.putfield i, q1, 11, 11, q4)) pc ls (.inl v :: .inr a :: st) ((n, kd, ln), iv, rv) bc bs = (kd a = 11 ∧ K (pc + 3) ls st ((n, kd, ln), u3 iv 11 a 11 v, rv) bc bs) := by
  show (kd a = 11 ∧ (0 = 1 → v = 0 ∨ v = 1) ∧ _) = _
  simp only [Nat.zero_ne_one, false_implies, true_and]
theorem sg_11_12 {i a : Nat} : stp CE K Q rt (some (.getfield i, q1, 11, 12, q4)) pc ls (.inr a :: st) ((n, kd, ln), iv, rv) bc bs = (kd a = 11 ∧ K (pc + 3) ls (.inl (iv 11 a 12) :: st) ((n, kd, ln), iv, rv) bc bs) := rfl
theorem sp_11_12 {i a : Nat} {v : Int32} : stp CE K Q rt (some (.putfield i, q1, 11, 12, q4)) pc ls (.inl v :: .inr a :: st) ((n, kd, ln), iv, rv) bc bs = (kd a = 11 ∧ K (pc + 3) ls st ((n, kd, ln), u3 iv 11 a 12 v, rv) bc bs) := by
  show (kd a = 11 ∧ (0 = 1 → v = 0 ∨ v = 1) ∧ _) = _
  simp only [Nat.zero_ne_one, false_implies, true_and]
theorem sg_11_13 {i a : Nat} : stp CE K Q rt (some (.getfield i, q1, 11, 13, q4)) pc ls (.inr a :: st) ((n, kd, ln), iv, rv) bc bs = (kd a = 11 ∧ K (pc + 3) ls (.inl (iv 11 a 13) :: st) ((n, kd, ln), iv, rv) bc bs) := rfl
theorem sp_11_13 {i a : Nat} {v : Int32} : stp CE K Q rt (some (.putfield i, q1, 11, 13, q4)) pc ls (.inl v :: .inr a :: st) ((n, kd, ln), iv, rv) bc bs = (kd a = 11 ∧ K (pc + 3) ls st ((n, kd, ln), u3 iv 11 a 13 v, rv) bc bs) := by
  show (kd a = 11 ∧ (0 = 1 → v = 0 ∨ v = 1) ∧ _) = _
  simp only [Nat.zero_ne_one, false_implies, true_and]
theorem sg_11_14 {i a : Nat} : stp CE K Q rt (some (.getfield i, q1, 11, 14, q4)) pc ls (.inr a :: st) ((n, kd, ln), iv, rv) bc bs = (kd a = 11 ∧ K (pc + 3) ls (.inl (iv 11 a 14) :: st) ((n, kd, ln), iv, rv) bc bs) := rfl
theorem sp_11_14 {i a : Nat} {v : Int32} : stp CE K Q rt (some (.putfield i, q1, 11, 14, q4)) pc ls (.inl v :: .inr a :: st) ((n, kd, ln), iv, rv) bc bs = (kd a = 11 ∧ K (pc + 3) ls st ((n, kd, ln), u3 iv 11 a 14 v, rv) bc bs) := by
  show (kd a = 11 ∧ (0 = 1 → v = 0 ∨ v = 1) ∧ _) = _
  simp only [Nat.zero_ne_one, false_implies, true_and]
theorem sg_12_0 {i a : Nat} : stp CE K Q rt (some (.getfield i, q1, 12, 0, q4)) pc ls (.inr a :: st) ((n, kd, ln), iv, rv) bc bs = (kd a = 12 ∧ K (pc + 3) ls (.inl (iv 12 a 0) :: st) ((n, kd, ln), iv, rv) bc bs) := rfl
theorem sp_12_0 {i a : Nat} {v : Int32} : stp CE K Q rt (some (.putfield i, q1, 12, 0, q4)) pc ls (.inl v :: .inr a :: st) ((n, kd, ln), iv, rv) bc bs = (kd a = 12 ∧ K (pc + 3) ls st ((n, kd, ln), u3 iv 12 a 0 v, rv) bc bs) := by
  show (kd a = 12 ∧ (0 = 1 → v = 0 ∨ v = 1) ∧ _) = _
  simp only [Nat.zero_ne_one, false_implies, true_and]
theorem sg_12_1 {i a : Nat} : stp CE K Q rt (some (.getfield i, q1, 12, 1, q4)) pc ls (.inr a :: st) ((n, kd, ln), iv, rv) bc bs = (kd a = 12 ∧ K (pc + 3) ls (.inl (iv 12 a 1) :: st) ((n, kd, ln), iv, rv) bc bs) := rfl
theorem sp_12_1 {i a : Nat} {v : Int32} : stp CE K Q rt (some (.putfield i, q1, 12, 1, q4)) pc ls (.inl v :: .inr a :: st) ((n, kd, ln), iv, rv) bc bs = (kd a = 12 ∧ K (pc + 3) ls st ((n, kd, ln), u3 iv 12 a 1 v, rv) bc bs) := by
  show (kd a = 12 ∧ (0 = 1 → v = 0 ∨ v = 1) ∧ _) = _
  simp only [Nat.zero_ne_one, false_implies, true_and]
theorem sg_12_2 {i a : Nat} : stp CE K Q rt (some (.getfield i, q1, 12, 2, q4)) pc ls (.inr a :: st) ((n, kd, ln), iv, rv) bc bs = (kd a = 12 ∧ K (pc + 3) ls (.inr (rv 12 a 2) :: st) ((n, kd, ln), iv, rv) bc bs) := rfl
theorem sp_12_2 {i a v : Nat} : stp CE K Q rt (some (.putfield i, q1, 12, 2, q4)) pc ls (.inr v :: .inr a :: st) ((n, kd, ln), iv, rv) bc bs = (kd a = 12 ∧ K (pc + 3) ls st ((n, kd, ln), iv, u3 rv 12 a 2 v) bc bs) := rfl
theorem sg_12_3 {i a : Nat} : stp CE K Q rt (some (.getfield i, q1, 12, 3, q4)) pc ls (.inr a :: st) ((n, kd, ln), iv, rv) bc bs = (kd a = 12 ∧ K (pc + 3) ls (.inr (rv 12 a 3) :: st) ((n, kd, ln), iv, rv) bc bs) := rfl
theorem sp_12_3 {i a v : Nat} : stp CE K Q rt (some (.putfield i, q1, 12, 3, q4)) pc ls (.inr v :: .inr a :: st) ((n, kd, ln), iv, rv) bc bs = (kd a = 12 ∧ K (pc + 3) ls st ((n, kd, ln), iv, u3 rv 12 a 3 v) bc bs) := rfl
theorem sg_12_4 {i a : Nat} : stp CE K Q rt (some (.getfield i, q1, 12, 4, q4)) pc ls (.inr a :: st) ((n, kd, ln), iv, rv) bc bs = (kd a = 12 ∧ K (pc + 3) ls (.inl (iv 12 a 4) :: st) ((n, kd, ln), iv, rv) bc bs) := rfl
theorem sp_12_4 {i a : Nat} {v : Int32} : stp CE K Q rt (some (.putfield i, q1, 12, 4, q4)) pc ls (.inl v :: .inr a :: st) ((n, kd, ln), iv, rv) bc bs = (kd a = 12 ∧ K (pc + 3) ls st ((n, kd, ln), u3 iv 12 a 4 v, rv) bc bs) := by
  show (kd a = 12 ∧ (0 = 1 → v = 0 ∨ v = 1) ∧ _) = _
  simp only [Nat.zero_ne_one, false_implies, true_and]
theorem sg_12_5 {i a : Nat} : stp CE K Q rt (some (.getfield i, q1, 12, 5, q4)) pc ls (.inr a :: st) ((n, kd, ln), iv, rv) bc bs = (kd a = 12 ∧ K (pc + 3) ls (.inr (rv 12 a 5) :: st) ((n, kd, ln), iv, rv) bc bs) := rfl
theorem sp_12_5 {i a v : Nat} : stp CE K Q rt (some (.putfield i, q1, 12, 5, q4)) pc ls (.inr v :: .inr a :: st) ((n, kd, ln), iv, rv) bc bs = (kd a = 12 ∧ K (pc + 3) ls st ((n, kd, ln), iv, u3 rv 12 a 5 v) bc bs) := rfl
theorem sg_12_6 {i a : Nat} : stp CE K Q rt (some (.getfield i, q1, 12, 6, q4)) pc ls (.inr a :: st) ((n, kd, ln), iv, rv) bc bs = (kd a = 12 ∧ K (pc + 3) ls (.inr (rv 12 a 6) :: st) ((n, kd, ln), iv, rv) bc bs) := rfl
theorem sp_12_6 {i a v : Nat} : stp CE K Q rt (some (.putfield i, q1, 12, 6, q4)) pc ls (.inr v :: .inr a :: st) ((n, kd, ln), iv, rv) bc bs = (kd a = 12 ∧ K (pc + 3) ls st ((n, kd, ln), iv, u3 rv 12 a 6 v) bc bs) := rfl
theorem sg_12_7 {i a : Nat} : stp CE K Q rt (some (.getfield i, q1, 12, 7, q4)) pc ls (.inr a :: st) ((n, kd, ln), iv, rv) bc bs = (kd a = 12 ∧ K (pc + 3) ls (.inr (rv 12 a 7) :: st) ((n, kd, ln), iv, rv) bc bs) := rfl
theorem sp_12_7 {i a v : Nat} : stp CE K Q rt (some (.putfield i, q1, 12, 7, q4)) pc ls (.inr v :: .inr a :: st) ((n, kd, ln), iv, rv) bc bs = (kd a = 12 ∧ K (pc + 3) ls st ((n, kd, ln), iv, u3 rv 12 a 7 v) bc bs) := rfl
theorem sg_12_8 {i a : Nat} : stp CE K Q rt (some (.getfield i, q1, 12, 8, q4)) pc ls (.inr a :: st) ((n, kd, ln), iv, rv) bc bs = (kd a = 12 ∧ K (pc + 3) ls (.inr (rv 12 a 8) :: st) ((n, kd, ln), iv, rv) bc bs) := rfl
theorem sp_12_8 {i a v : Nat} : stp CE K Q rt (some (.putfield i, q1, 12, 8, q4)) pc ls (.inr v :: .inr a :: st) ((n, kd, ln), iv, rv) bc bs = (kd a = 12 ∧ K (pc + 3) ls st ((n, kd, ln), iv, u3 rv 12 a 8 v) bc bs) := rfl
theorem sg_12_9 {i a : Nat} : stp CE K Q rt (some (.getfield i, q1, 12, 9, q4)) pc ls (.inr a :: st) ((n, kd, ln), iv, rv) bc bs = (kd a = 12 ∧ K (pc + 3) ls (.inr (rv 12 a 9) :: st) ((n, kd, ln), iv, rv) bc bs) := rfl
theorem sp_12_9 {i a v : Nat} : stp CE K Q rt (some (.putfield i, q1, 12, 9, q4)) pc ls (.inr v :: .inr a :: st) ((n, kd, ln), iv, rv) bc bs = (kd a = 12 ∧ K (pc + 3) ls st ((n, kd, ln), iv, u3 rv 12 a 9 v) bc bs) := rfl
theorem sg_12_10 {i a : Nat} : stp CE K Q rt (some (.getfield i, q1, 12, 10, q4)) pc ls (.inr a :: st) ((n, kd, ln), iv, rv) bc bs = (kd a = 12 ∧ K (pc + 3) ls (.inr (rv 12 a 10) :: st) ((n, kd, ln), iv, rv) bc bs) := rfl
theorem sp_12_10 {i a v : Nat} : stp CE K Q rt (some (.putfield i, q1, 12, 10, q4)) pc ls (.inr v :: .inr a :: st) ((n, kd, ln), iv, rv) bc bs = (kd a = 12 ∧ K (pc + 3) ls st ((n, kd, ln), iv, u3 rv 12 a 10 v) bc bs) := rfl
theorem sg_12_11 {i a : Nat} : stp CE K Q rt (some (.getfield i, q1, 12, 11, q4)) pc ls (.inr a :: st) ((n, kd, ln), iv, rv) bc bs = (kd a = 12 ∧ K (pc + 3) ls (.inl (iv 12 a 11) :: st) ((n, kd, ln), iv, rv) bc bs) := rfl
theorem sp_12_11 {i a : Nat} {v : Int32} : stp CE K Q rt (some (.putfield i, q1, 12, 11, q4)) pc ls (.inl v :: .inr a :: st) ((n, kd, ln), iv, rv) bc bs = (kd a = 12 ∧ K (pc + 3) ls st ((n, kd, ln), u3 iv 12 a 11 v, rv) bc bs) := by
  show (kd a = 12 ∧ (0 = 1 → v = 0 ∨ v = 1) ∧ _) = _
  simp only [Nat.zero_ne_one, false_implies, true_and]
theorem sg_12_12 {i a : Nat} : stp CE K Q rt (some (.getfield i, q1, 12, 12, q4)) pc ls (.inr a :: st) ((n, kd, ln), iv, rv) bc bs = (kd a = 12 ∧ K (pc + 3) ls (.inr (rv 12 a 12) :: st) ((n, kd, ln), iv, rv) bc bs) := rfl
theorem sp_12_12 {i a v : Nat} : stp CE K Q rt (some (.putfield i, q1, 12, 12, q4)) pc ls (.inr v :: .inr a :: st) ((n, kd, ln), iv, rv) bc bs = (kd a = 12 ∧ K (pc + 3) ls st ((n, kd, ln), iv, u3 rv 12 a 12 v) bc bs) := rfl
theorem sg_12_13 {i a : Nat} : stp CE K Q rt (some (.getfield i, q1, 12, 13, q4)) pc ls (.inr a :: st) ((n, kd, ln), iv, rv) bc bs = (kd a = 12 ∧ K (pc + 3) ls (.inr (rv 12 a 13) :: st) ((n, kd, ln), iv, rv) bc bs) := rfl
theorem sp_12_13 {i a v : Nat} : stp CE K Q rt (some (.putfield i, q1, 12, 13, q4)) pc ls (.inr v :: .inr a :: st) ((n, kd, ln), iv, rv) bc bs = (kd a = 12 ∧ K (pc + 3) ls st ((n, kd, ln), iv, u3 rv 12 a 13 v) bc bs) := rfl
theorem sg_12_14 {i a : Nat} : stp CE K Q rt (some (.getfield i, q1, 12, 14, q4)) pc ls (.inr a :: st) ((n, kd, ln), iv, rv) bc bs = (kd a = 12 ∧ K (pc + 3) ls (.inr (rv 12 a 14) :: st) ((n, kd, ln), iv, rv) bc bs) := rfl
theorem sp_12_14 {i a v : Nat} : stp CE K Q rt (some (.putfield i, q1, 12, 14, q4)) pc ls (.inr v :: .inr a :: st) ((n, kd, ln), iv, rv) bc bs = (kd a = 12 ∧ K (pc + 3) ls st ((n, kd, ln), iv, u3 rv 12 a 14 v) bc bs) := rfl
theorem sg_12_15 {i a : Nat} : stp CE K Q rt (some (.getfield i, q1, 12, 15, q4)) pc ls (.inr a :: st) ((n, kd, ln), iv, rv) bc bs = (kd a = 12 ∧ K (pc + 3) ls (.inr (rv 12 a 15) :: st) ((n, kd, ln), iv, rv) bc bs) := rfl
theorem sp_12_15 {i a v : Nat} : stp CE K Q rt (some (.putfield i, q1, 12, 15, q4)) pc ls (.inr v :: .inr a :: st) ((n, kd, ln), iv, rv) bc bs = (kd a = 12 ∧ K (pc + 3) ls st ((n, kd, ln), iv, u3 rv 12 a 15 v) bc bs) := rfl
theorem sg_12_16 {i a : Nat} : stp CE K Q rt (some (.getfield i, q1, 12, 16, q4)) pc ls (.inr a :: st) ((n, kd, ln), iv, rv) bc bs = (kd a = 12 ∧ K (pc + 3) ls (.inr (rv 12 a 16) :: st) ((n, kd, ln), iv, rv) bc bs) := rfl
theorem sp_12_16 {i a v : Nat} : stp CE K Q rt (some (.putfield i, q1, 12, 16, q4)) pc ls (.inr v :: .inr a :: st) ((n, kd, ln), iv, rv) bc bs = (kd a = 12 ∧ K (pc + 3) ls st ((n, kd, ln), iv, u3 rv 12 a 16 v) bc bs) := rfl
theorem sg_12_17 {i a : Nat} : stp CE K Q rt (some (.getfield i, q1, 12, 17, q4)) pc ls (.inr a :: st) ((n, kd, ln), iv, rv) bc bs = (kd a = 12 ∧ K (pc + 3) ls (.inr (rv 12 a 17) :: st) ((n, kd, ln), iv, rv) bc bs) := rfl
theorem sp_12_17 {i a v : Nat} : stp CE K Q rt (some (.putfield i, q1, 12, 17, q4)) pc ls (.inr v :: .inr a :: st) ((n, kd, ln), iv, rv) bc bs = (kd a = 12 ∧ K (pc + 3) ls st ((n, kd, ln), iv, u3 rv 12 a 17 v) bc bs) := rfl
theorem sg_12_18 {i a : Nat} : stp CE K Q rt (some (.getfield i, q1, 12, 18, q4)) pc ls (.inr a :: st) ((n, kd, ln), iv, rv) bc bs = (kd a = 12 ∧ K (pc + 3) ls (.inr (rv 12 a 18) :: st) ((n, kd, ln), iv, rv) bc bs) := rfl
theorem sp_12_18 {i a v : Nat} : stp CE K Q rt (some (.putfield i, q1, 12, 18, q4)) pc ls (.inr v :: .inr a :: st) ((n, kd, ln), iv, rv) bc bs = (kd a = 12 ∧ K (pc + 3) ls st ((n, kd, ln), iv, u3 rv 12 a 18 v) bc bs) := rfl
theorem sg_12_19 {i a : Nat} : stp CE K Q rt (some (.getfield i, q1, 12, 19, q4)) pc ls (.inr a :: st) ((n, kd, ln), iv, rv) bc bs = (kd a = 12 ∧ K (pc + 3) ls (.inr (rv 12 a 19) :: st) ((n, kd, ln), iv, rv) bc bs) := rfl
theorem sp_12_19 {i a v : Nat} : stp CE K Q rt (some (.putfield i, q1, 12, 19, q4)) pc ls (.inr v :: .inr a :: st) ((n, kd, ln), iv, rv) bc bs = (kd a = 12 ∧ K (pc + 3) ls st ((n, kd, ln), iv, u3 rv 12 a 19 v) bc bs) := rfl
theorem sg_12_20 {i a : Nat} : stp CE K Q rt (some (.getfield i, q1, 12, 20, q4)) pc ls (.inr a :: st) ((n, kd, ln), iv, rv) bc bs = (kd a = 12 ∧ K (pc + 3) ls (.inl (iv 12 a 20) :: st) ((n, kd, ln), iv, rv) bc bs) := rfl
theorem sp_12_20 {i a : Nat} {v : Int32} : stp CE K Q rt (some (.putfield i, q1, 12, 20, q4)) pc ls (.inl v :: .inr a :: st) ((n, kd, ln), iv, rv) bc bs = (kd a = 12 ∧ K (pc + 3) ls st ((n, kd, ln), u3 iv 12 a 20 v, rv) bc bs) := by
  show (kd a = 12 ∧ (0 = 1 → v = 0 ∨ v = 1) ∧ _) = _
  simp only [Nat.zero_ne_one, false_implies, true_and]
theorem sg_12_21 {i a : Nat} : stp CE K Q rt (some (.getfield i, q1, 12, 21, q4)) pc ls (.inr a :: st) ((n, kd, ln), iv, rv) bc bs = (kd a = 12 ∧ K (pc + 3) ls (.inr (rv 12 a 21) :: st) ((n, kd, ln), iv, rv) bc bs) := rfl
theorem sp_12_21 {i a v : Nat} : stp CE K Q rt (some (.putfield i, q1, 12, 21, q4)) pc ls (.inr v :: .inr a :: st) ((n, kd, ln), iv, rv) bc bs = (kd a = 12 ∧ K (pc + 3) ls st ((n, kd, ln), iv, u3 rv 12 a 21 v) bc bs) := rfl
theorem sg_12_22 {i a : Nat} : stp CE K Q rt (some (.getfield i, q1, 12, 22, q4)) pc ls (.inr a :: st) ((n, kd, ln), iv, rv) bc bs = (kd a = 12 ∧ K (pc + 3) ls (.inr (rv 12 a 22) :: st) ((n, kd, ln), iv, rv) bc bs) := rfl
theorem sp_12_22 {i a v : Nat} : stp CE K Q rt (some (.putfield i, q1, 12, 22, q4)) pc ls (.inr v :: .inr a :: st) ((n, kd, ln), iv, rv) bc bs = (kd a = 12 ∧ K (pc + 3) ls st ((n, kd, ln), iv, u3 rv 12 a 22 v) bc bs) := rfl
theorem sg_12_23 {i a : Nat} : stp CE K Q rt (some (.getfield i, q1, 12, 23, q4)) pc ls (.inr a :: st) ((n, kd, ln), iv, rv) bc bs = (kd a = 12 ∧ K (pc + 3) ls (.inl (iv 12 a 23) :: st) ((n, kd, ln), iv, rv) bc bs) := rfl
theorem sp_12_23 {i a : Nat} {v : Int32} : stp CE K Q rt (some (.putfield i, q1, 12, 23, q4)) pc ls (.inl v :: .inr a :: st) ((n, kd, ln), iv, rv) bc bs = (kd a = 12 ∧ (v = 0 ∨ v = 1) ∧ K (pc + 3) ls st ((n, kd, ln), u3 iv 12 a 23 v, rv) bc bs) := by
  show (kd a = 12 ∧ (1 = 1 → v = 0 ∨ v = 1) ∧ _) = _
  simp only [forall_const]
theorem sg_12_24 {i a : Nat} : stp CE K Q rt (some (.getfield i, q1, 12, 24, q4)) pc ls (.inr a :: st) ((n, kd, ln), iv, rv) bc bs = (kd a = 12 ∧ K (pc + 3) ls (.inl (iv 12 a 24) :: st) ((n, kd, ln), iv, rv) bc bs) := rfl
theorem sp_12_24 {i a : Nat} {v : Int32} : stp CE K Q rt (some (.putfield i, q1, 12, 24, q4)) pc ls (.inl v :: .inr a :: st) ((n, kd, ln), iv, rv) bc bs = (kd a = 12 ∧ K (pc + 3) ls st ((n, kd, ln), u3 iv 12 a 24 v, rv) bc bs) := by
  show (kd a = 12 ∧ (0 = 1 → v = 0 ∨ v = 1) ∧ _) = _
  simp only [Nat.zero_ne_one, false_implies, true_and]
theorem sg_12_25 {i a : Nat} : stp CE K Q rt (some (.getfield i, q1, 12, 25, q4)) pc ls (.inr a :: st) ((n, kd, ln), iv, rv) bc bs = (kd a = 12 ∧ K (pc + 3) ls (.inl (iv 12 a 25) :: st) ((n, kd, ln), iv, rv) bc bs) := rfl
theorem sp_12_25 {i a : Nat} {v : Int32} : stp CE K Q rt (some (.putfield i, q1, 12, 25, q4)) pc ls (.inl v :: .inr a :: st) ((n, kd, ln), iv, rv) bc bs = (kd a = 12 ∧ K (pc + 3) ls st ((n, kd, ln), u3 iv 12 a 25 v, rv) bc bs) := by
  show (kd a = 12 ∧ (0 = 1 → v = 0 ∨ v = 1) ∧ _) = _
  simp only [Nat.zero_ne_one, false_implies, true_and]
theorem sg_12_26 {i a : Nat} : stp CE K Q rt (some (.getfield i, q1, 12, 26, q4)) pc ls (.inr a :: st) ((n, kd, ln), iv, rv) bc bs = (kd a = 12 ∧ K (pc + 3) ls (.inl (iv 12 a 26) :: st) ((n, kd, ln), iv, rv) bc bs) := rfl
theorem sp_12_26 {i a : Nat} {v : Int32} : stp CE K Q rt (some (.putfield i, q1, 12, 26, q4)) pc ls (.inl v :: .inr a :: st) ((n, kd, ln), iv, rv) bc bs = (kd a = 12 ∧ K (pc + 3) ls st ((n, kd, ln), u3 iv 12 a 26 v, rv) bc bs) := by
  show (kd a = 12 ∧ (0 = 1 → v = 0 ∨ v = 1) ∧ _) = _
  simp only [Nat.zero_ne_one, false_implies, true_and]
theorem sg_12_27 {i a : Nat} : stp CE K Q rt (some (.getfield i, q1, 12, 27, q4)) pc ls (.inr a :: st) ((n, kd, ln), iv, rv) bc bs = (kd a = 12 ∧ K (pc + 3) ls (.inl (iv 12 a 27) :: st) ((n, kd, ln), iv, rv) bc bs) := rfl
theorem sp_12_27 {i a : Nat} {v : Int32} : stp CE K Q rt (some (.putfield i, q1, 12, 27, q4)) pc ls (.inl v :: .inr a :: st) ((n, kd, ln), iv, rv) bc bs = (kd a = 12 ∧ K (pc + 3) ls st ((n, kd, ln), u3 iv 12 a 27 v, rv) bc bs) := by
  show (kd a = 12 ∧ (0 = 1 → v = 0 ∨ v = 1) ∧ _) = _
  simp only [Nat.zero_ne_one, false_implies, true_and]
theorem sg_12_28 {i a : Nat} : stp CE K Q rt (some (.getfield i, q1, 12, 28, q4)) pc ls (.inr a :: st) ((n, kd, ln), iv, rv) bc bs = (kd a = 12 ∧ K (pc + 3) ls (.inr (rv 12 a 28) :: st) ((n, kd, ln), iv, rv) bc bs) := rfl
theorem sp_12_28 {i a v : Nat} : stp CE K Q rt (some (.putfield i, q1, 12, 28, q4)) pc ls (.inr v :: .inr a :: st) ((n, kd, ln), iv, rv) bc bs = (kd a = 12 ∧ K (pc + 3) ls st ((n, kd, ln), iv, u3 rv 12 a 28 v) bc bs) := rfl
theorem sg_12_29 {i a : Nat} : stp CE K Q rt (some (.getfield i, q1, 12, 29, q4)) pc ls (.inr a :: st) ((n, kd, ln), iv, rv) bc bs = (kd a = 12 ∧ K (pc + 3) ls (.inr (rv 12 a 29) :: st) ((n, kd, ln), iv, rv) bc bs) := rfl
theorem sp_12_29 {i a v : Nat} : stp CE K Q rt (some (.putfield i, q1, 12, 29, q4)) pc ls (.inr v :: .inr a :: st) ((n, kd, ln), iv, rv) bc bs = (kd a = 12 ∧ K (pc + 3) ls st ((n, kd, ln), iv, u3 rv 12 a 29 v) bc bs) := rfl
theorem sg_12_30 {i a : Nat} : stp CE K Q rt (some (.getfield i, q1, 12, 30, q4)) pc ls (.inr a :: st) ((n, kd, ln), iv, rv) bc bs = (kd a = 12 ∧ K (pc + 3) ls (.inr (rv 12 a 30) :: st) ((n, kd, ln), iv, rv) bc bs) := rfl
theorem sp_12_30 {i a v : Nat} : stp CE K Q rt (some (.putfield i, q1, 12, 30, q4)) pc ls (.inr v :: .inr a :: st) ((n, kd, ln), iv, rv) bc bs = (kd a = 12 ∧ K (pc + 3) ls st ((n, kd, ln), iv, u3 rv 12 a 30 v) bc bs) := rfl
theorem sg_12_31 {i a : Nat} : stp CE K Q rt (some (.getfield i, q1, 12, 31, q4)) pc ls (.inr a :: st) ((n, kd, ln), iv, rv) bc bs = (kd a = 12 ∧ K (pc + 3) ls (.inr (rv 12 a 31) :: st) ((n, kd, ln), iv, rv) bc bs) := rfl
theorem sp_12_31 {i a v : Nat} : stp CE K Q rt (some (.putfield i, q1, 12, 31, q4)) pc ls (.inr v :: .inr a :: st) ((n, kd, ln), iv, rv) bc bs = (kd a = 12 ∧ K (pc + 3) ls st ((n, kd, ln), iv, u3 rv 12 a 31 v) bc bs) := rfl
theorem sg_12_32 {i a : Nat} : stp CE K Q rt (some (.getfield i, q1, 12, 32, q4)) pc ls (.inr a :: st) ((n, kd, ln), iv, rv) bc bs = (kd a = 12 ∧ K (pc + 3) ls (.inl (iv 12 a 32) :: st) ((n, kd, ln), iv, rv) bc bs) := rfl
theorem sp_12_32 {i a : Nat} {v : Int32} : stp CE K Q rt (some (.putfield i, q1, 12, 32, q4)) pc ls (.inl v :: .inr a :: st) ((n, kd, ln), iv, rv) bc bs = (kd a = 12 ∧ K (pc + 3) ls st ((n, kd, ln), u3 iv 12 a 32 v, rv) bc bs) := by
  show (kd a = 12 ∧ (0 = 1 → v = 0 ∨ v = 1) ∧ _) = _
  simp only [Nat.zero_ne_one, false_implies, true_and]
theorem sg_12_33 {i a : Nat} : stp CE K Q rt (some (.getfield i, q1, 12, 33, q4)) pc ls (.inr a :: st) ((n, kd, ln), iv, rv) bc bs = (kd a = 12 ∧ K (pc + 3) ls (.inl (iv 12 a 33) :: st) ((n, kd, ln), iv, rv) bc bs) := rfl
theorem sp_12_33 {i a : Nat} {v : Int32} : stp CE K Q rt (some (.putfield i, q1, 12, 33, q4)) pc ls (.inl v :: .inr a :: st) ((n, kd, ln), iv, rv) bc bs = (kd a = 12 ∧ K (pc + 3) ls st ((n, kd, ln), u3 iv 12 a 33 v, rv) bc bs) := by
  show (kd a = 12 ∧ (0 = 1 → v = 0 ∨ v = 1) ∧ _) = _
  simp only [Nat.zero_ne_one, false_implies, true_and]
theorem sg_12_34 {i a : Nat} : stp CE K Q rt (some (.getfield i, q1, 12, 34, q4)) pc ls (.inr a :: st) ((n, kd, ln), iv, rv) bc bs = (kd a = 12 ∧ K (pc + 3) ls (.inr (rv 12 a 34) :: st) ((n, kd, ln), iv, rv) bc bs) := rfl
theorem sp_12_34 {i a v : Nat} : stp CE K Q rt (some (.putfield i, q1, 12, 34, q4)) pc ls (.inr v :: .inr a :: st) ((n, kd, ln), iv, rv) bc bs = (kd a = 12 ∧ K (pc + 3) ls st ((n, kd, ln), iv, u3 rv 12 a 34 v) bc bs) := rfl
theorem sg_12_35 {i a : Nat} : stp CE K Q rt (some (.getfield i, q1, 12, 35, q4)) pc ls (.inr a :: st) ((n, kd, ln), iv, rv) bc bs = (kd a = 12 ∧ K (pc + 3) ls (.inr (rv 12 a 35) :: st) ((n, kd, ln), iv, rv) bc bs) := rfl
theorem sp_12_35 {i a v : Nat} : stp CE K Q rt (some (.putfield i, q1, 12, 35, q4)) pc ls (.inr v :: .inr a :: st) ((n, kd, ln), iv, rv) bc bs = (kd a = 12 ∧ K (pc + 3) ls st ((n, kd, ln), iv, u3 rv 12 a 35 v) bc bs) := rfl
theorem sg_12_36 {i a : Nat} : stp CE K Q rt (some (.getfield i, q1, 12, 36, q4)) pc ls (.inr a :: st) ((n, kd, ln), iv, rv) bc bs = (kd a = 12 ∧ K (pc + 3) ls (.inr (rv 12 a 36) :: st) ((n, kd, ln), iv, rv) bc bs) := rfl
theorem sp_12_36 {i a v : Nat} : stp CE K Q rt (some (.putfield i, q1, 12, 36, q4)) pc ls (.inr v :: .inr a :: st) ((n, kd, ln), iv, rv) bc bs = (kd a = 12 ∧ K (pc + 3) ls st ((n, kd, ln), iv, u3 rv 12 a 36 v) bc bs) := rfl
theorem sg_12_37 {i a : Nat} : stp CE K Q rt (some (.getfield i, q1, 12, 37, q4)) pc ls (.inr a :: st) ((n, kd, ln), iv, rv) bc bs = (kd a = 12 ∧ K (pc + 3) ls (.inl (iv 12 a 37) :: st) ((n, kd, ln), iv, rv) bc bs) := rfl
theorem sp_12_37 {i a : Nat} {v : Int32} : stp CE K Q rt (some (.putfield i, q1, 12, 37, q4)) pc ls (.inl v :: .inr a :: st) ((n, kd, ln), iv, rv) bc bs = (kd a = 12 ∧ K (pc + 3) ls st ((n, kd, ln), u3 iv 12 a 37 v, rv) bc bs) := by
  show (kd a = 12 ∧ (0 = 1 → v = 0 ∨ v = 1) ∧ _) = _
  simp only [Nat.zero_ne_one, false_implies, true_and]
theorem sg_12_38 {i a : Nat} : stp CE K Q rt (some (.getfield i, q1, 12, 38, q4)) pc ls (.inr a :: st) ((n, kd, ln), iv, rv) bc bs = (kd a = 12 ∧ K (pc + 3) ls (.inr (rv 12 a 38) :: st) ((n, kd, ln), iv, rv) bc bs) := rfl
theorem sp_12_38 {i a v : Nat} : stp CE K Q rt (some (.putfield i, q1, 12, 38, q4)) pc ls (.inr v :: .inr a :: st) ((n, kd, ln), iv, rv) bc bs = (kd a = 12 ∧ K (pc + 3) ls st ((n, kd, ln), iv, u3 rv 12 a 38 v) bc bs) := rfl
theorem sg_12_39 {i a : Nat} : stp CE K Q rt (some (.getfield i, q1, 12, 39, q4)) pc ls (.inr a :: st) ((n, kd, ln), iv, rv) bc bs = (kd a = 12 ∧ K (pc + 3) ls (.inr (rv 12 a 39) :: st) ((n, kd, ln), iv, rv) bc bs) := rfl
theorem sp_12_39 {i a v : Nat} : stp CE K Q rt (some (.putfield i, q1, 12, 39, q4)) pc ls (.inr v :: .inr a :: st) ((n, kd, ln), iv, rv) bc bs = (kd a = 12 ∧ K (pc + 3) ls st ((n, kd, ln), iv, u3 rv 12 a 39 v) bc bs) := rfl
theorem sg_12_40 {i a : Nat} : stp CE K Q rt (some (.getfield i, q1, 12, 40, q4)) pc ls (.inr a :: st) ((n, kd, ln), iv, rv) bc bs = (kd a = 12 ∧ K (pc + 3) ls (.inr (rv 12 a 40) :: st) ((n, kd, ln), iv, rv) bc bs) := rfl
theorem sp_12_40 {i a v : Nat} : stp CE K Q rt (some (.putfield i, q1, 12, 40, q4)) pc ls (.inr v :: .inr a :: st) ((n, kd, ln), iv, rv) bc bs = (kd a = 12 ∧ K (pc + 3) ls st ((n, kd, ln), iv, u3 rv 12 a 40 v) bc bs) := rfl
theorem sg_12_41 {i a : Nat} : stp CE K Q rt (some (.getfield i, q1, 12, 41, q4)) pc ls (.inr a :: st) ((n, kd, ln), iv, rv) bc bs = (kd a = 12 ∧ K (pc + 3) ls (.inr (rv 12 a 41) :: st) ((n, kd, ln), iv, rv) bc bs) := rfl
theorem sp_12_41 {i a v : Nat} : stp CE K Q rt (some (.putfield i, q1, 12, 41, q4)) pc ls (.inr v :: .inr a :: st) ((n, kd, ln), iv, rv) bc bs = (kd a = 12 ∧ K (pc + 3) ls st ((n, kd, ln), iv, u3 rv 12 a 41 v) bc bs) := rfl
theorem sg_12_42 {i a : Nat} : stp CE K Q rt (some (.getfield i, q1, 12, 42, q4)) pc ls (.inr a :: st) ((n, kd, ln), iv, rv) bc bs = (kd a = 12 ∧ K (pc + 3) ls (.inl (iv 12 a 42) :: st) ((n, kd, ln), iv, rv) bc bs) := rfl
theorem sp_12_42 {i a : Nat} {v : Int32} : stp CE K Q rt (some (.putfield i, q1, 12, 42, q4)) pc ls (.inl v :: .inr a :: st) ((n, kd, ln), iv, rv) bc bs = (kd a = 12 ∧ K (pc + 3) ls st ((n, kd, ln), u3 iv 12 a 42 v, rv) bc bs) := by
  show (kd a = 12 ∧ (0 = 1 → v = 0 ∨ v = 1) ∧ _) = _
  simp only [Nat.zero_ne_one, false_implies, true_and]
theorem sg_12_43 {i a : Nat} : stp CE K Q rt (some (.getfield i, q1, 12, 43, q4)) pc ls (.inr a :: st) ((n, kd, ln), iv, rv) bc bs = (kd a = 12 ∧ K (pc + 3) ls (.inl (iv 12 a 43) :: st) ((n, kd, ln), iv, rv) bc bs) := rfl
theorem sp_12_43 {i a : Nat} {v : Int32} : stp CE K Q rt (some (.putfield i, q1, 12, 43, q4)) pc ls (.inl v :: .inr a :: st) ((n, kd, ln), iv, rv) bc bs = (kd a = 12 ∧ K (pc + 3) ls st ((n, kd, ln), u3 iv 12 a 43 v, rv) bc bs) := by
  show (kd a = 12 ∧ (0 = 1 → v = 0 ∨ v = 1) ∧ _) = _
  simp only [Nat.zero_ne_one, false_implies, true_and]
theorem sg_12_44 {i a : Nat} : stp CE K Q rt (some (.getfield i, q1, 12, 44, q4)) pc ls (.inr a :: st) ((n, kd, ln), iv, rv) bc bs = (kd a = 12 ∧ K (pc + 3) ls (.inl (iv 12 a 44) :: st) ((n, kd, ln), iv, rv) bc bs) := rfl
theorem sp_12_44 {i a : Nat} {v : Int32} : stp CE K Q rt (some (.putfield i, q1, 12, 44, q4)) pc ls (.inl v :: .inr a :: st) ((n, kd, ln), iv, rv) bc bs = (kd a = 12 ∧ K (pc + 3) ls st ((n, kd, ln), u3 iv 12 a 44 v, rv) bc bs) := by
  show (kd a = 12 ∧ (0 = 1 → v = 0 ∨ v = 1) ∧ _) = _
  simp only [Nat.zero_ne_one, false_implies, true_and]
theorem sg_12_45 {i a : Nat} : stp CE K Q rt (some (.getfield i, q1, 12, 45, q4)) pc ls (.inr a :: st) ((n, kd, ln), iv, rv) bc bs = (kd a = 12 ∧ K (pc + 3) ls (.inr (rv 12 a 45) :: st) ((n, kd, ln), iv, rv) bc bs) := rfl
theorem sp_12_45 {i a v : Nat} : stp CE K Q rt (some (.putfield i, q1, 12, 45, q4)) pc ls (.inr v :: .inr a :: st) ((n, kd, ln), iv, rv) bc bs = (kd a = 12 ∧ K (pc + 3) ls st ((n, kd, ln), iv, u3 rv 12 a 45 v) bc bs) := rfl
theorem s_objInit {i a : Nat} : stp CE K Q rt (some (.invokespecial i, q1, 904, q3, q4)) pc ls (.inr a :: st) ((n, kd, ln), iv, rv) bc bs = ((¬ a = 0 ∧ st.length ≤ 8) ∧ K (pc + 3) ls st ((n, kd, ln), iv, rv) bc bs) := rfl
theorem s_max {x y : Int32} {i : Nat} : stp CE K Q rt (some (.invokestatic i, q1, 900, q3, q4)) pc ls (.inl y :: .inl x :: st) ((n, kd, ln), iv, rv) bc bs = (st.length ≤ 8 ∧ K (pc + 3) ls (.inl (if x < y then y else x) :: st) ((n, kd, ln), iv, rv) bc bs) := rfl
theorem s_min {x y : Int32} {i : Nat} : stp CE K Q rt (some (.invokestatic i, q1, 901, q3, q4)) pc ls (.inl y :: .inl x :: st) ((n, kd, ln), iv, rv) bc bs = (st.length ≤ 8 ∧ K (pc + 3) ls (.inl (if y < x then y else x) :: st) ((n, kd, ln), iv, rv) bc bs) := rfl
theorem s_abs {x : Int32} {i : Nat} : stp CE K Q rt (some (.invokestatic i, q1, 902, q3, q4)) pc ls (.inl x :: st) ((n, kd, ln), iv, rv) bc bs = (st.length ≤ 8 ∧ K (pc + 3) ls (.inl (if 0 ≤ x then x else 0 - x) :: st) ((n, kd, ln), iv, rv) bc bs) := rfl
theorem s_copy {z sp dp : Int32} {a a0 i : Nat} : stp CE K Q rt (some (.invokestatic i, q1, 903, q3, q4)) pc ls (.inl z :: .inl dp :: .inr a :: .inl sp :: .inr a0 :: st) ((n, kd, ln), iv, rv) bc bs = ((st.length ≤ 8 ∧ kd a = 20 ∧ kd a0 = 20 ∧ ¬ sp < 0 ∧ ¬ dp < 0 ∧ ¬ z < 0 ∧ sp.toNatClampNeg + z.toNatClampNeg ≤ ln a0 ∧ dp.toNatClampNeg + z.toNatClampNeg ≤ ln a) ∧ K (pc + 3) ls st ((n, kd, ln), cp3 iv a0 sp.toNatClampNeg a dp.toNatClampNeg z.toNatClampNeg, rv) bc bs) := rfl
theorem s_switch {x : Int32} {d lo hi : Int} {offs : Array Int} : stp CE K Q rt (some (.tableswitch d lo hi offs, q1, q2, q3, q4)) pc ls (.inl x :: st) ((n, kd, ln), iv, rv) bc bs = (swt x (swL q2) (fun t => K t ls st ((n, kd, ln), iv, rv) bc bs) (K q3 ls st ((n, kd, ln), iv, rv) bc bs)) := rfl
theorem c_0 {i a : Nat}  : stp CE K Q rt (some (.invokespecial i, q1, 0, q3, q4)) pc ls (.inr a :: st) ((n, kd, ln), iv, rv) bc bs = (kd a = 1 ∧ st.length ≤ 8 ∧ 1 ≤ bc ∧ 60 ≤ bs ∧ CE 0 [.inr a] ((n, kd, ln), iv, rv) (fun v h' => K (pc + 3) ls (v.toList ++ st) h' (bc - 1) (bs - 60))) := by
  show (1 ≤ (.inr a :: st).length ∧ kd a = 1 ∧ st.length ≤ 8 ∧ 1 ≤ bc ∧ 60 ≤ bs ∧ CE 0 [.inr a] ((n, kd, ln), iv, rv) (fun v h' => K (pc + 3) ls (v.toList ++ st) h' (bc - 1) (bs - 60))) = _
  simp only [List.length_cons, Nat.le_add_left, Nat.zero_le, true_and, Nat.sub_zero]
theorem c_1 {i a : Nat} {v1 v2 : AV} : stp CE K Q rt (some (.invokevirtual i, q1, 1, q3, q4)) pc ls (v2 :: v1 :: .inr a :: st) ((n, kd, ln), iv, rv) bc bs = (kd a = 1 ∧ st.length ≤ 8 ∧ 1 ≤ bc ∧ 3 ≤ bs ∧ CE 1 [.inr a, v1, v2] ((n, kd, ln), iv, rv) (fun v h' => K (pc + 3) ls (v.toList ++ st) h' (bc - 1) (bs - 3))) := by
  show (3 ≤ (v2 :: v1 :: .inr a :: st).length ∧ kd a = 1 ∧ st.length ≤ 8 ∧ 1 ≤ bc ∧ 3 ≤ bs ∧ CE 1 [.inr a, v1, v2] ((n, kd, ln), iv, rv) (fun v h' => K (pc + 3) ls (v.toList ++ st) h' (bc - 1) (bs - 3))) = _
  simp only [List.length_cons, Nat.le_add_left, Nat.zero_le, true_and, Nat.sub_zero]
theorem c_2 {i a : Nat} {v1 v2 : AV} : stp CE K Q rt (some (.invokevirtual i, q1, 2, q3, q4)) pc ls (v2 :: v1 :: .inr a :: st) ((n, kd, ln), iv, rv) bc bs = (kd a = 1 ∧ st.length ≤ 8 ∧ CE 2 [.inr a, v1, v2] ((n, kd, ln), iv, rv) (fun v h' => K (pc + 3) ls (v.toList ++ st) h' bc bs)) := by
  show (3 ≤ (v2 :: v1 :: .inr a :: st).length ∧ kd a = 1 ∧ st.length ≤ 8 ∧ 0 ≤ bc ∧ 0 ≤ bs ∧ CE 2 [.inr a, v1, v2] ((n, kd, ln), iv, rv) (fun v h' => K (pc + 3) ls (v.toList ++ st) h' (bc - 0) (bs - 0))) = _
  simp only [List.length_cons, Nat.le_add_left, Nat.zero_le, true_and, Nat.sub_zero]
theorem c_3 {i a : Nat} {v1 : AV} : stp CE K Q rt (some (.invokevirtual i, q1, 3, q3, q4)) pc ls (v1 :: .inr a :: st) ((n, kd, ln), iv, rv) bc bs = (kd a = 1 ∧ st.length ≤ 8 ∧ CE 3 [.inr a, v1] ((n, kd, ln), iv, rv) (fun v h' => K (pc + 3) ls (v.toList ++ st) h' bc bs)) := by
  show (2 ≤ (v1 :: .inr a :: st).length ∧ kd a = 1 ∧ st.length ≤ 8 ∧ 0 ≤ bc ∧ 0 ≤ bs ∧ CE 3 [.inr a, v1] ((n, kd, ln), iv, rv) (fun v h' => K (pc + 3) ls (v.toList ++ st) h' (bc - 0) (bs - 0))) = _
  simp only [List.length_cons, Nat.le_add_left, Nat.zero_le, true_and, Nat.sub_zero]
theorem c_4 {i a : Nat} {v1 : AV} : stp CE K Q rt (some (.invokevirtual i, q1, 4, q3, q4)) pc ls (v1 :: .inr a :: st) ((n, kd, ln), iv, rv) bc bs = (kd a = 1 ∧ st.length ≤ 8 ∧ CE 4 [.inr a, v1] ((n, kd, ln), iv, rv) (fun v h' => K (pc + 3) ls (v.toList ++ st) h' bc bs)) := by
  show (2 ≤ (v1 :: .inr a :: st).length ∧ kd a = 1 ∧ st.length ≤ 8 ∧ 0 ≤ bc ∧ 0 ≤ bs ∧ CE 4 [.inr a, v1] ((n, kd, ln), iv, rv) (fun v h' => K (pc + 3) ls (v.toList ++ st) h' (bc - 0) (bs - 0))) = _
  simp only [List.length_cons, Nat.le_add_left, Nat.zero_le, true_and, Nat.sub_zero]
theorem c_5 {i a : Nat} {v1 : AV} : stp CE K Q rt (some (.invokevirtual i, q1, 5, q3, q4)) pc ls (v1 :: .inr a :: st) ((n, kd, ln), iv, rv) bc bs = (kd a = 1 ∧ st.length ≤ 8 ∧ CE 5 [.inr a, v1] ((n, kd, ln), iv, rv) (fun v h' => K (pc + 3) ls (v.toList ++ st) h' bc bs)) := by
  show (2 ≤ (v1 :: .inr a :: st).length ∧ kd a = 1 ∧ st.length ≤ 8 ∧ 0 ≤ bc ∧ 0 ≤ bs ∧ CE 5 [.inr a, v1] ((n, kd, ln), iv, rv) (fun v h' => K (pc + 3) ls (v.toList ++ st) h' (bc - 0) (bs - 0))) = _
  simp only [List.length_cons, Nat.le_add_left, Nat.zero_le, true_and, Nat.sub_zero]
theorem c_6 {i a : Nat} {v1 v2 : AV} : stp CE K Q rt (some (.invokevirtual i, q1, 6, q3, q4)) pc ls (v2 :: v1 :: .inr a :: st) ((n, kd, ln), iv, rv) bc bs = (kd a = 1 ∧ st.length ≤ 8 ∧ CE 6 [.inr a, v1, v2] ((n, kd, ln), iv, rv) (fun v h' => K (pc + 3) ls (v.toList ++ st) h' bc bs)) := by
  show (3 ≤ (v2 :: v1 :: .inr a :: st).length ∧ kd a = 1 ∧ st.length ≤ 8 ∧ 0 ≤ bc ∧ 0 ≤ bs ∧ CE 6 [.inr a, v1, v2] ((n, kd, ln), iv, rv) (fun v h' => K (pc + 3) ls (v.toList ++ st) h' (bc - 0) (bs - 0))) = _
  simp only [List.length_cons, Nat.le_add_left, Nat.zero_le, true_and, Nat.sub_zero]
theorem c_7 {i : Nat} {v0 v1 : AV} : stp CE K Q rt (some (.invokestatic i, q1, 7, q3, q4)) pc ls (v1 :: v0 :: st) ((n, kd, ln), iv, rv) bc bs = (st.length ≤ 8 ∧ CE 7 [v0, v1] ((n, kd, ln), iv, rv) (fun v h' => K (pc + 3) ls (v.toList ++ st) h' bc bs)) := by
  show (2 ≤ (v1 :: v0 :: st).length ∧ st.length ≤ 8 ∧ 0 ≤ bc ∧ 0 ≤ bs ∧ CE 7 [v0, v1] ((n, kd, ln), iv, rv) (fun v h' => K (pc + 3) ls (v.toList ++ st) h' (bc - 0) (bs - 0))) = _
  simp only [List.length_cons, Nat.le_add_left, Nat.zero_le, true_and, Nat.sub_zero]
theorem c_8 {i a : Nat} {v1 : AV} : stp CE K Q rt (some (.invokespecial i, q1, 8, q3, q4)) pc ls (v1 :: .inr a :: st) ((n, kd, ln), iv, rv) bc bs = (kd a = 2 ∧ st.length ≤ 8 ∧ CE 8 [.inr a, v1] ((n, kd, ln), iv, rv) (fun v h' => K (pc + 3) ls (v.toList ++ st) h' bc bs)) := by
  show (2 ≤ (v1 :: .inr a :: st).length ∧ kd a = 2 ∧ st.length ≤ 8 ∧ 0 ≤ bc ∧ 0 ≤ bs ∧ CE 8 [.inr a, v1] ((n, kd, ln), iv, rv) (fun v h' => K (pc + 3) ls (v.toList ++ st) h' (bc - 0) (bs - 0))) = _
  simp only [List.length_cons, Nat.le_add_left, Nat.zero_le, true_and, Nat.sub_zero]
theorem c_9 {i a : Nat} {v1 v2 v3 : AV} : stp CE K Q rt (some (.invokespecial i, q1, 9, q3, q4)) pc ls (v3 :: v2 :: v1 :: .inr a :: st) ((n, kd, ln), iv, rv) bc bs = (kd a = 3 ∧ st.length ≤ 8 ∧ CE 9 [.inr a, v1, v2, v3] ((n, kd, ln), iv, rv) (fun v h' => K (pc + 3) ls (v.toList ++ st) h' bc bs)) := by
  show (4 ≤ (v3 :: v2 :: v1 :: .inr a :: st).length ∧ kd a = 3 ∧ st.length ≤ 8 ∧ 0 ≤ bc ∧ 0 ≤ bs ∧ CE 9 [.inr a, v1, v2, v3] ((n, kd, ln), iv, rv) (fun v h' => K (pc + 3) ls (v.toList ++ st) h' (bc - 0) (bs - 0))) = _
  simp only [List.length_cons, Nat.le_add_left, Nat.zero_le, true_and, Nat.sub_zero]
theorem c_10 {i a : Nat} {v1 v2 v3 v4 : AV} : stp CE K Q rt (some (.invokespecial i, q1, 10, q3, q4)) pc ls (v4 :: v3 :: v2 :: v1 :: .inr a :: st) ((n, kd, ln), iv, rv) bc bs = (kd a = 4 ∧ st.length ≤ 8 ∧ CE 10 [.inr a, v1, v2, v3, v4] ((n, kd, ln), iv, rv) (fun v h' => K (pc + 3) ls (v.toList ++ st) h' bc bs)) := by
  show (5 ≤ (v4 :: v3 :: v2 :: v1 :: .inr a :: st).length ∧ kd a = 4 ∧ st.length ≤ 8 ∧ 0 ≤ bc ∧ 0 ≤ bs ∧ CE 10 [.inr a, v1, v2, v3, v4] ((n, kd, ln), iv, rv) (fun v h' => K (pc + 3) ls (v.toList ++ st) h' (bc - 0) (bs - 0))) = _
  simp only [List.length_cons, Nat.le_add_left, Nat.zero_le, true_and, Nat.sub_zero]
theorem c_11 {i a : Nat}  : stp CE K Q rt (some (.invokespecial i, q1, 11, q3, q4)) pc ls (.inr a :: st) ((n, kd, ln), iv, rv) bc bs = (kd a = 5 ∧ st.length ≤ 8 ∧ CE 11 [.inr a] ((n, kd, ln), iv, rv) (fun v h' => K (pc + 3) ls (v.toList ++ st) h' bc bs)) := by
  show (1 ≤ (.inr a :: st).length ∧ kd a = 5 ∧ st.length ≤ 8 ∧ 0 ≤ bc ∧ 0 ≤ bs ∧ CE 11 [.inr a] ((n, kd, ln), iv, rv) (fun v h' => K (pc + 3) ls (v.toList ++ st) h' (bc - 0) (bs - 0))) = _
  simp only [List.length_cons, Nat.le_add_left, Nat.zero_le, true_and, Nat.sub_zero]
theorem c_12 {i a : Nat}  : stp CE K Q rt (some (.invokespecial i, q1, 12, q3, q4)) pc ls (.inr a :: st) ((n, kd, ln), iv, rv) bc bs = (kd a = 6 ∧ st.length ≤ 8 ∧ 8 ≤ bc ∧ 43 ≤ bs ∧ CE 12 [.inr a] ((n, kd, ln), iv, rv) (fun v h' => K (pc + 3) ls (v.toList ++ st) h' (bc - 8) (bs - 43))) := by
  show (1 ≤ (.inr a :: st).length ∧ kd a = 6 ∧ st.length ≤ 8 ∧ 8 ≤ bc ∧ 43 ≤ bs ∧ CE 12 [.inr a] ((n, kd, ln), iv, rv) (fun v h' => K (pc + 3) ls (v.toList ++ st) h' (bc - 8) (bs - 43))) = _
  simp only [List.length_cons, Nat.le_add_left, Nat.zero_le, true_and, Nat.sub_zero]
theorem c_13 {i a : Nat}  : stp CE K Q rt (some (.invokevirtual i, q1, 13, q3, q4)) pc ls (.inr a :: st) ((n, kd, ln), iv, rv) bc bs = (kd a = 6 ∧ st.length ≤ 8 ∧ CE 13 [.inr a] ((n, kd, ln), iv, rv) (fun v h' => K (pc + 3) ls (v.toList ++ st) h' bc bs)) := by
  show (1 ≤ (.inr a :: st).length ∧ kd a = 6 ∧ st.length ≤ 8 ∧ 0 ≤ bc ∧ 0 ≤ bs ∧ CE 13 [.inr a] ((n, kd, ln), iv, rv) (fun v h' => K (pc + 3) ls (v.toList ++ st) h' (bc - 0) (bs - 0))) = _
  simp only [List.length_cons, Nat.le_add_left, Nat.zero_le, true_and, Nat.sub_zero]
theorem c_14 {i a : Nat} {v1 v2 : AV} : stp CE K Q rt (some (.invokevirtual i, q1, 14, q3, q4)) pc ls (v2 :: v1 :: .inr a :: st) ((n, kd, ln), iv, rv) bc bs = (kd a = 6 ∧ st.length ≤ 8 ∧ CE 14 [.inr a, v1, v2] ((n, kd, ln), iv, rv) (fun v h' => K (pc + 3) ls (v.toList ++ st) h' bc bs)) := by
  show (3 ≤ (v2 :: v1 :: .inr a :: st).length ∧ kd a = 6 ∧ st.length ≤ 8 ∧ 0 ≤ bc ∧ 0 ≤ bs ∧ CE 14 [.inr a, v1, v2] ((n, kd, ln), iv, rv) (fun v h' => K (pc + 3) ls (v.toList ++ st) h' (bc - 0) (bs - 0))) = _
  simp only [List.length_cons, Nat.le_add_left, Nat.zero_le, true_and, Nat.sub_zero]
theorem c_15 {i a : Nat} {v1 v2 : AV} : stp CE K Q rt (some (.invokevirtual i, q1, 15, q3, q4)) pc ls (v2 :: v1 :: .inr a :: st) ((n, kd, ln), iv, rv) bc bs = (kd a = 6 ∧ st.length ≤ 8 ∧ CE 15 [.inr a, v1, v2] ((n, kd, ln), iv, rv) (fun v h' => K (pc + 3) ls (v.toList ++ st) h' bc bs)) := by
  show (3 ≤ (v2 :: v1 :: .inr a :: st).length ∧ kd a = 6 ∧ st.length ≤ 8 ∧ 0 ≤ bc ∧ 0 ≤ bs ∧ CE 15 [.inr a, v1, v2] ((n, kd, ln), iv, rv) (fun v h' => K (pc + 3) ls (v.toList ++ st) h' (bc - 0) (bs - 0))) = _
  simp only [List.length_cons, Nat.le_add_left, Nat.zero_le, true_and, Nat.sub_zero]
theorem c_16 {i a : Nat}  : stp CE K Q rt (some (.invokevirtual i, q1, 16, q3, q4)) pc ls (.inr a :: st) ((n, kd, ln), iv, rv) bc bs = (kd a = 6 ∧ st.length ≤ 8 ∧ CE 16 [.inr a] ((n, kd, ln), iv, rv) (fun v h' => K (pc + 3) ls (v.toList ++ st) h' bc bs)) := by
  show (1 ≤ (.inr a :: st).length ∧ kd a = 6 ∧ st.length ≤ 8 ∧ 0 ≤ bc ∧ 0 ≤ bs ∧ CE 16 [.inr a] ((n, kd, ln), iv, rv) (fun v h' => K (pc + 3) ls (v.toList ++ st) h' (bc - 0) (bs - 0))) = _
  simp only [List.length_cons, Nat.le_add_left, Nat.zero_le, true_and, Nat.sub_zero]
theorem c_17 {i a : Nat} {v1 : AV} : stp CE K Q rt (some (.invokevirtual i, q1, 17, q3, q4)) pc ls (v1 :: .inr a :: st) ((n, kd, ln), iv, rv) bc bs = (kd a = 6 ∧ st.length ≤ 8 ∧ CE 17 [.inr a, v1] ((n, kd, ln), iv, rv) (fun v h' => K (pc + 3) ls (v.toList ++ st) h' bc bs)) := by
  show (2 ≤ (v1 :: .inr a :: st).length ∧ kd a = 6 ∧ st.length ≤ 8 ∧ 0 ≤ bc ∧ 0 ≤ bs ∧ CE 17 [.inr a, v1] ((n, kd, ln), iv, rv) (fun v h' => K (pc + 3) ls (v.toList ++ st) h' (bc - 0) (bs - 0))) = _
  simp only [List.length_cons, Nat.le_add_left, Nat.zero_le, true_and, Nat.sub_zero]
theorem c_18 {i a : Nat} {v1 : AV} : stp CE K Q rt (some (.invokevirtual i, q1, 18, q3, q4)) pc ls (v1 :: .inr a :: st) ((n, kd, ln), iv, rv) bc bs = (kd a = 6 ∧ st.length ≤ 8 ∧ CE 18 [.inr a, v1] ((n, kd, ln), iv, rv) (fun v h' => K (pc + 3) ls (v.toList ++ st) h' bc bs)) := by
  show (2 ≤ (v1 :: .inr a :: st).length ∧ kd a = 6 ∧ st.length ≤ 8 ∧ 0 ≤ bc ∧ 0 ≤ bs ∧ CE 18 [.inr a, v1] ((n, kd, ln), iv, rv) (fun v h' => K (pc + 3) ls (v.toList ++ st) h' (bc - 0) (bs - 0))) = _
  simp only [List.length_cons, Nat.le_add_left, Nat.zero_le, true_and, Nat.sub_zero]
theorem c_19 {i a : Nat} {v1 : AV} : stp CE K Q rt (some (.invokevirtual i, q1, 19, q3, q4)) pc ls (v1 :: .inr a :: st) ((n, kd, ln), iv, rv) bc bs = (kd a = 6 ∧ st.length ≤ 8 ∧ CE 19 [.inr a, v1] ((n, kd, ln), iv, rv) (fun v h' => K (pc + 3) ls (v.toList ++ st) h' bc bs)) := by
  show (2 ≤ (v1 :: .inr a :: st).length ∧ kd a = 6 ∧ st.length ≤ 8 ∧ 0 ≤ bc ∧ 0 ≤ bs ∧ CE 19 [.inr a, v1] ((n, kd, ln), iv, rv) (fun v h' => K (pc + 3) ls (v.toList ++ st) h' (bc - 0) (bs - 0))) = _
  simp only [List.length_cons, Nat.le_add_left, Nat.zero_le, true_and, Nat.sub_zero]
theorem c_20 {i a : Nat} {v1 v2 : AV} : stp CE K Q rt (some (.invokevirtual i, q1, 20, q3, q4)) pc ls (v2 :: v1 :: .inr a :: st) ((n, kd, ln), iv, rv) bc bs = (kd a = 6 ∧ st.length ≤ 8 ∧ CE 20 [.inr a, v1, v2] ((n, kd, ln), iv, rv) (fun v h' => K (pc + 3) ls (v.toList ++ st) h' bc bs)) := by
  show (3 ≤ (v2 :: v1 :: .inr a :: st).length ∧ kd a = 6 ∧ st.length ≤ 8 ∧ 0 ≤ bc ∧ 0 ≤ bs ∧ CE 20 [.inr a, v1, v2] ((n, kd, ln), iv, rv) (fun v h' => K (pc + 3) ls (v.toList ++ st) h' (bc - 0) (bs - 0))) = _
  simp only [List.length_cons, Nat.le_add_left, Nat.zero_le, true_and, Nat.sub_zero]
theorem c_21 {i a : Nat} {v1 : AV} : stp CE K Q rt (some (.invokevirtual i, q1, 21, q3, q4)) pc ls (v1 :: .inr a :: st) ((n, kd, ln), iv, rv) bc bs = (kd a = 6 ∧ st.length ≤ 8 ∧ CE 21 [.inr a, v1] ((n, kd, ln), iv, rv) (fun v h' => K (pc + 3) ls (v.toList ++ st) h' bc bs)) := by
  show (2 ≤ (v1 :: .inr a :: st).length ∧ kd a = 6 ∧ st.length ≤ 8 ∧ 0 ≤ bc ∧ 0 ≤ bs ∧ CE 21 [.inr a, v1] ((n, kd, ln), iv, rv) (fun v h' => K (pc + 3) ls (v.toList ++ st) h' (bc - 0) (bs - 0))) = _
  simp only [List.length_cons, Nat.le_add_left, Nat.zero_le, true_and, Nat.sub_zero]
theorem c_22 {i : Nat} {v0 v1 v2 v3 : AV} : stp CE K Q rt (some (.invokestatic i, q1, 22, q3, q4)) pc ls (v3 :: v2 :: v1 :: v0 :: st) ((n, kd, ln), iv, rv) bc bs = (st.length ≤ 8 ∧ CE 22 [v0, v1, v2, v3] ((n, kd, ln), iv, rv) (fun v h' => K (pc + 3) ls (v.toList ++ st) h' bc bs)) := by
  show (4 ≤ (v3 :: v2 :: v1 :: v0 :: st).length ∧ st.length ≤ 8 ∧ 0 ≤ bc ∧ 0 ≤ bs ∧ CE 22 [v0, v1, v2, v3] ((n, kd, ln), iv, rv) (fun v h' => K (pc + 3) ls (v.toList ++ st) h' (bc - 0) (bs - 0))) = _
  simp only [List.length_cons, Nat.le_add_left, Nat.zero_le, true_and, Nat.sub_zero]
theorem c_23 {i a : Nat} {v1 v2 : AV} : stp CE K Q rt (some (.invokespecial i, q1, 23, q3, q4)) pc ls (v2 :: v1 :: .inr a :: st) ((n, kd, ln), iv, rv) bc bs = (kd a = 7 ∧ st.length ≤ 8 ∧ CE 23 [.inr a, v1, v2] ((n, kd, ln), iv, rv) (fun v h' => K (pc + 3) ls (v.toList ++ st) h' bc bs)) := by
  show (3 ≤ (v2 :: v1 :: .inr a :: st).length ∧ kd a = 7 ∧ st.length ≤ 8 ∧ 0 ≤ bc ∧ 0 ≤ bs ∧ CE 23 [.inr a, v1, v2] ((n, kd, ln), iv, rv) (fun v h' => K (pc + 3) ls (v.toList ++ st) h' (bc - 0) (bs - 0))) = _
  simp only [List.length_cons, Nat.le_add_left, Nat.zero_le, true_and, Nat.sub_zero]
theorem c_24 {i a : Nat}  : stp CE K Q rt (some (.invokespecial i, q1, 24, q3, q4)) pc ls (.inr a :: st) ((n, kd, ln), iv, rv) bc bs = (kd a = 8 ∧ st.length ≤ 8 ∧ 2 ≤ bc ∧ 45 ≤ bs ∧ CE 24 [.inr a] ((n, kd, ln), iv, rv) (fun v h' => K (pc + 3) ls (v.toList ++ st) h' (bc - 2) (bs - 45))) := by
  show (1 ≤ (.inr a :: st).length ∧ kd a = 8 ∧ st.length ≤ 8 ∧ 2 ≤ bc ∧ 45 ≤ bs ∧ CE 24 [.inr a] ((n, kd, ln), iv, rv) (fun v h' => K (pc + 3) ls (v.toList ++ st) h' (bc - 2) (bs - 45))) = _
  simp only [List.length_cons, Nat.le_add_left, Nat.zero_le, true_and, Nat.sub_zero]
theorem c_25 {i a : Nat}  : stp CE K Q rt (some (.invokevirtual i, q1, 25, q3, q4)) pc ls (.inr a :: st) ((n, kd, ln), iv, rv) bc bs = (kd a = 8 ∧ st.length ≤ 8 ∧ CE 25 [.inr a] ((n, kd, ln), iv, rv) (fun v h' => K (pc + 3) ls (v.toList ++ st) h' bc bs)) := by
  show (1 ≤ (.inr a :: st).length ∧ kd a = 8 ∧ st.length ≤ 8 ∧ 0 ≤ bc ∧ 0 ≤ bs ∧ CE 25 [.inr a] ((n, kd, ln), iv, rv) (fun v h' => K (pc + 3) ls (v.toList ++ st) h' (bc - 0) (bs - 0))) = _
  simp only [List.length_cons, Nat.le_add_left, Nat.zero_le, true_and, Nat.sub_zero]
theorem c_26 {i a : Nat} {v1 : AV} : stp CE K Q rt (some (.invokevirtual i, q1, 26, q3, q4)) pc ls (v1 :: .inr a :: st) ((n, kd, ln), iv, rv) bc bs = (kd a = 8 ∧ st.length ≤ 8 ∧ CE 26 [.inr a, v1] ((n, kd, ln), iv, rv) (fun v h' => K (pc + 3) ls (v.toList ++ st) h' bc bs)) := by
  show (2 ≤ (v1 :: .inr a :: st).length ∧ kd a = 8 ∧ st.length ≤ 8 ∧ 0 ≤ bc ∧ 0 ≤ bs ∧ CE 26 [.inr a, v1] ((n, kd, ln), iv, rv) (fun v h' => K (pc + 3) ls (v.toList ++ st) h' (bc - 0) (bs - 0))) = _
  simp only [List.length_cons, Nat.le_add_left, Nat.zero_le, true_and, Nat.sub_zero]
theorem c_27 {i a : Nat} {v1 v2 : AV} : stp CE K Q rt (some (.invokevirtual i, q1, 27, q3, q4)) pc ls (v2 :: v1 :: .inr a :: st) ((n, kd, ln), iv, rv) bc bs = (kd a = 8 ∧ st.length ≤ 8 ∧ 1 ≤ bc ∧ 5 ≤ bs ∧ CE 27 [.inr a, v1, v2] ((n, kd, ln), iv, rv) (fun v h' => K (pc + 3) ls (v.toList ++ st) h' (bc - 1) (bs - 5))) := by
  show (3 ≤ (v2 :: v1 :: .inr a :: st).length ∧ kd a = 8 ∧ st.length ≤ 8 ∧ 1 ≤ bc ∧ 5 ≤ bs ∧ CE 27 [.inr a, v1, v2] ((n, kd, ln), iv, rv) (fun v h' => K (pc + 3) ls (v.toList ++ st) h' (bc - 1) (bs - 5))) = _
  simp only [List.length_cons, Nat.le_add_left, Nat.zero_le, true_and, Nat.sub_zero]
theorem c_28 {i a : Nat} {v1 v2 : AV} : stp CE K Q rt (some (.invokevirtual i, q1, 28, q3, q4)) pc ls (v2 :: v1 :: .inr a :: st) ((n, kd, ln), iv, rv) bc bs = (kd a = 8 ∧ st.length ≤ 8 ∧ CE 28 [.inr a, v1, v2] ((n, kd, ln), iv, rv) (fun v h' => K (pc + 3) ls (v.toList ++ st) h' bc bs)) := by
  show (3 ≤ (v2 :: v1 :: .inr a :: st).length ∧ kd a = 8 ∧ st.length ≤ 8 ∧ 0 ≤ bc ∧ 0 ≤ bs ∧ CE 28 [.inr a, v1, v2] ((n, kd, ln), iv, rv) (fun v h' => K (pc + 3) ls (v.toList ++ st) h' (bc - 0) (bs - 0))) = _
  simp only [List.length_cons, Nat.le_add_left, Nat.zero_le, true_and, Nat.sub_zero]
theorem c_29 {i a : Nat}  : stp CE K Q rt (some (.invokevirtual i, q1, 29, q3, q4)) pc ls (.inr a :: st) ((n, kd, ln), iv, rv) bc bs = (kd a = 8 ∧ st.length ≤ 8 ∧ CE 29 [.inr a] ((n, kd, ln), iv, rv) (fun v h' => K (pc + 3) ls (v.toList ++ st) h' bc bs)) := by
  show (1 ≤ (.inr a :: st).length ∧ kd a = 8 ∧ st.length ≤ 8 ∧ 0 ≤ bc ∧ 0 ≤ bs ∧ CE 29 [.inr a] ((n, kd, ln), iv, rv) (fun v h' => K (pc + 3) ls (v.toList ++ st) h' (bc - 0) (bs - 0))) = _
  simp only [List.length_cons, Nat.le_add_left, Nat.zero_le, true_and, Nat.sub_zero]
theorem c_30 {i a : Nat} {v1 : AV} : stp CE K Q rt (some (.invokevirtual i, q1, 30, q3, q4)) pc ls (v1 :: .inr a :: st) ((n, kd, ln), iv, rv) bc bs = (kd a = 8 ∧ st.length ≤ 8 ∧ CE 30 [.inr a, v1] ((n, kd, ln), iv, rv) (fun v h' => K (pc + 3) ls (v.toList ++ st) h' bc bs)) := by
  show (2 ≤ (v1 :: .inr a :: st).length ∧ kd a = 8 ∧ st.length ≤ 8 ∧ 0 ≤ bc ∧ 0 ≤ bs ∧ CE 30 [.inr a, v1] ((n, kd, ln), iv, rv) (fun v h' => K (pc + 3) ls (v.toList ++ st) h' (bc - 0) (bs - 0))) = _
  simp only [List.length_cons, Nat.le_add_left, Nat.zero_le, true_and, Nat.sub_zero]
theorem c_31 {i a : Nat}  : stp CE K Q rt (some (.invokespecial i, q1, 31, q3, q4)) pc ls (.inr a :: st) ((n, kd, ln), iv, rv) bc bs = (kd a = 9 ∧ st.length ≤ 8 ∧ CE 31 [.inr a] ((n, kd, ln), iv, rv) (fun v h' => K (pc + 3) ls (v.toList ++ st) h' bc bs)) := by
  show (1 ≤ (.inr a :: st).length ∧ kd a = 9 ∧ st.length ≤ 8 ∧ 0 ≤ bc ∧ 0 ≤ bs ∧ CE 31 [.inr a] ((n, kd, ln), iv, rv) (fun v h' => K (pc + 3) ls (v.toList ++ st) h' (bc - 0) (bs - 0))) = _
  simp only [List.length_cons, Nat.le_add_left, Nat.zero_le, true_and, Nat.sub_zero]
theorem c_32 {i a : Nat} {v1 v2 v3 : AV} : stp CE K Q rt (some (.invokespecial i, q1, 32, q3, q4)) pc ls (v3 :: v2 :: v1 :: .inr a :: st) ((n, kd, ln), iv, rv) bc bs = (kd a = 10 ∧ st.length ≤ 8 ∧ CE 32 [.inr a, v1, v2, v3] ((n, kd, ln), iv, rv) (fun v h' => K (pc + 3) ls (v.toList ++ st) h' bc bs)) := by
  show (4 ≤ (v3 :: v2 :: v1 :: .inr a :: st).length ∧ kd a = 10 ∧ st.length ≤ 8 ∧ 0 ≤ bc ∧ 0 ≤ bs ∧ CE 32 [.inr a, v1, v2, v3] ((n, kd, ln), iv, rv) (fun v h' => K (pc + 3) ls (v.toList ++ st) h' (bc - 0) (bs - 0))) = _
  simp only [List.length_cons, Nat.le_add_left, Nat.zero_le, true_and, Nat.sub_zero]
theorem c_33 {i a : Nat}  : stp CE K Q rt (some (.invokespecial i, q1, 33, q3, q4)) pc ls (.inr a :: st) ((n, kd, ln), iv, rv) bc bs = (kd a = 11 ∧ st.length ≤ 8 ∧ 40 ≤ bc ∧ 1200 ≤ bs ∧ CE 33 [.inr a] ((n, kd, ln), iv, rv) (fun v h' => K (pc + 3) ls (v.toList ++ st) h' (bc - 40) (bs - 1200))) := by
  show (1 ≤ (.inr a :: st).length ∧ kd a = 11 ∧ st.length ≤ 8 ∧ 40 ≤ bc ∧ 1200 ≤ bs ∧ CE 33 [.inr a] ((n, kd, ln), iv, rv) (fun v h' => K (pc + 3) ls (v.toList ++ st) h' (bc - 40) (bs - 1200))) = _
  simp only [List.length_cons, Nat.le_add_left, Nat.zero_le, true_and, Nat.sub_zero]
theorem c_34 {i a : Nat}  : stp CE K Q rt (some (.invokevirtual i, q1, 34, q3, q4)) pc ls (.inr a :: st) ((n, kd, ln), iv, rv) bc bs = (kd a = 11 ∧ st.length ≤ 8 ∧ 1 ≤ bc ∧ 5 ≤ bs ∧ CE 34 [.inr a] ((n, kd, ln), iv, rv) (fun v h' => K (pc + 3) ls (v.toList ++ st) h' (bc - 1) (bs - 5))) := by
  show (1 ≤ (.inr a :: st).length ∧ kd a = 11 ∧ st.length ≤ 8 ∧ 1 ≤ bc ∧ 5 ≤ bs ∧ CE 34 [.inr a] ((n, kd, ln), iv, rv) (fun v h' => K (pc + 3) ls (v.toList ++ st) h' (bc - 1) (bs - 5))) = _
  simp only [List.length_cons, Nat.le_add_left, Nat.zero_le, true_and, Nat.sub_zero]
theorem c_35 {i a : Nat} {v1 v2 : AV} : stp CE K Q rt (some (.invokevirtual i, q1, 35, q3, q4)) pc ls (v2 :: v1 :: .inr a :: st) ((n, kd, ln), iv, rv) bc bs = (kd a = 11 ∧ st.length ≤ 8 ∧ 101 ≤ bc ∧ 606 ≤ bs ∧ CE 35 [.inr a, v1, v2] ((n, kd, ln), iv, rv) (fun v h' => K (pc + 3) ls (v.toList ++ st) h' (bc - 101) (bs - 606))) := by
  show (3 ≤ (v2 :: v1 :: .inr a :: st).length ∧ kd a = 11 ∧ st.length ≤ 8 ∧ 101 ≤ bc ∧ 606 ≤ bs ∧ CE 35 [.inr a, v1, v2] ((n, kd, ln), iv, rv) (fun v h' => K (pc + 3) ls (v.toList ++ st) h' (bc - 101) (bs - 606))) = _
  simp only [List.length_cons, Nat.le_add_left, Nat.zero_le, true_and, Nat.sub_zero]
theorem c_36 {i a : Nat} {v1 v2 v3 : AV} : stp CE K Q rt (some (.invokevirtual i, q1, 36, q3, q4)) pc ls (v3 :: v2 :: v1 :: .inr a :: st) ((n, kd, ln), iv, rv) bc bs = (kd a = 11 ∧ st.length ≤ 8 ∧ 1 ≤ bc ∧ 9 ≤ bs ∧ CE 36 [.inr a, v1, v2, v3] ((n, kd, ln), iv, rv) (fun v h' => K (pc + 3) ls (v.toList ++ st) h' (bc - 1) (bs - 9))) := by
  show (4 ≤ (v3 :: v2 :: v1 :: .inr a :: st).length ∧ kd a = 11 ∧ st.length ≤ 8 ∧ 1 ≤ bc ∧ 9 ≤ bs ∧ CE 36 [.inr a, v1, v2, v3] ((n, kd, ln), iv, rv) (fun v h' => K (pc + 3) ls (v.toList ++ st) h' (bc - 1) (bs - 9))) = _
  simp only [List.length_cons, Nat.le_add_left, Nat.zero_le, true_and, Nat.sub_zero]
theorem c_37 {i a : Nat} {v1 v2 : AV} : stp CE K Q rt (some (.invokevirtual i, q1, 37, q3, q4)) pc ls (v2 :: v1 :: .inr a :: st) ((n, kd, ln), iv, rv) bc bs = (kd a = 11 ∧ st.length ≤ 8 ∧ CE 37 [.inr a, v1, v2] ((n, kd, ln), iv, rv) (fun v h' => K (pc + 3) ls (v.toList ++ st) h' bc bs)) := by
  show (3 ≤ (v2 :: v1 :: .inr a :: st).length ∧ kd a = 11 ∧ st.length ≤ 8 ∧ 0 ≤ bc ∧ 0 ≤ bs ∧ CE 37 [.inr a, v1, v2] ((n, kd, ln), iv, rv) (fun v h' => K (pc + 3) ls (v.toList ++ st) h' (bc - 0) (bs - 0))) = _
  simp only [List.length_cons, Nat.le_add_left, Nat.zero_le, true_and, Nat.sub_zero]
theorem c_38 {i a : Nat} {v1 v2 : AV} : stp CE K Q rt (some (.invokevirtual i, q1, 38, q3, q4)) pc ls (v2 :: v1 :: .inr a :: st) ((n, kd, ln), iv, rv) bc bs = (kd a = 11 ∧ st.length ≤ 8 ∧ CE 38 [.inr a, v1, v2] ((n, kd, ln), iv, rv) (fun v h' => K (pc + 3) ls (v.toList ++ st) h' bc bs)) := by
  show (3 ≤ (v2 :: v1 :: .inr a :: st).length ∧ kd a = 11 ∧ st.length ≤ 8 ∧ 0 ≤ bc ∧ 0 ≤ bs ∧ CE 38 [.inr a, v1, v2] ((n, kd, ln), iv, rv) (fun v h' => K (pc + 3) ls (v.toList ++ st) h' (bc - 0) (bs - 0))) = _
  simp only [List.length_cons, Nat.le_add_left, Nat.zero_le, true_and, Nat.sub_zero]
theorem c_39 {i a : Nat} {v1 : AV} : stp CE K Q rt (some (.invokevirtual i, q1, 39, q3, q4)) pc ls (v1 :: .inr a :: st) ((n, kd, ln), iv, rv) bc bs = (kd a = 11 ∧ st.length ≤ 8 ∧ CE 39 [.inr a, v1] ((n, kd, ln), iv, rv) (fun v h' => K (pc + 3) ls (v.toList ++ st) h' bc bs)) := by
  show (2 ≤ (v1 :: .inr a :: st).length ∧ kd a = 11 ∧ st.length ≤ 8 ∧ 0 ≤ bc ∧ 0 ≤ bs ∧ CE 39 [.inr a, v1] ((n, kd, ln), iv, rv) (fun v h' => K (pc + 3) ls (v.toList ++ st) h' (bc - 0) (bs - 0))) = _
  simp only [List.length_cons, Nat.le_add_left, Nat.zero_le, true_and, Nat.sub_zero]
theorem c_40 {i a : Nat} {v1 v2 : AV} : stp CE K Q rt (some (.invokevirtual i, q1, 40, q3, q4)) pc ls (v2 :: v1 :: .inr a :: st) ((n, kd, ln), iv, rv) bc bs = (kd a = 11 ∧ st.length ≤ 8 ∧ 1 ≤ bc ∧ 5 ≤ bs ∧ CE 40 [.inr a, v1, v2] ((n, kd, ln), iv, rv) (fun v h' => K (pc + 3) ls (v.toList ++ st) h' (bc - 1) (bs - 5))) := by
  show (3 ≤ (v2 :: v1 :: .inr a :: st).length ∧ kd a = 11 ∧ st.length ≤ 8 ∧ 1 ≤ bc ∧ 5 ≤ bs ∧ CE 40 [.inr a, v1, v2] ((n, kd, ln), iv, rv) (fun v h' => K (pc + 3) ls (v.toList ++ st) h' (bc - 1) (bs - 5))) = _
  simp only [List.length_cons, Nat.le_add_left, Nat.zero_le, true_and, Nat.sub_zero]
theorem c_41 {i a : Nat} {v1 v2 : AV} : stp CE K Q rt (some (.invokevirtual i, q1, 41, q3, q4)) pc ls (v2 :: v1 :: .inr a :: st) ((n, kd, ln), iv, rv) bc bs = (kd a = 11 ∧ st.length ≤ 8 ∧ CE 41 [.inr a, v1, v2] ((n, kd, ln), iv, rv) (fun v h' => K (pc + 3) ls (v.toList ++ st) h' bc bs)) := by
  show (3 ≤ (v2 :: v1 :: .inr a :: st).length ∧ kd a = 11 ∧ st.length ≤ 8 ∧ 0 ≤ bc ∧ 0 ≤ bs ∧ CE 41 [.inr a, v1, v2] ((n, kd, ln), iv, rv) (fun v h' => K (pc + 3) ls (v.toList ++ st) h' (bc - 0) (bs - 0))) = _
  simp only [List.length_cons, Nat.le_add_left, Nat.zero_le, true_and, Nat.sub_zero]
theorem c_42 {i a : Nat}  : stp CE K Q rt (some (.invokevirtual i, q1, 42, q3, q4)) pc ls (.inr a :: st) ((n, kd, ln), iv, rv) bc bs = (kd a = 11 ∧ st.length ≤ 8 ∧ CE 42 [.inr a] ((n, kd, ln), iv, rv) (fun v h' => K (pc + 3) ls (v.toList ++ st) h' bc bs)) := by
  show (1 ≤ (.inr a :: st).length ∧ kd a = 11 ∧ st.length ≤ 8 ∧ 0 ≤ bc ∧ 0 ≤ bs ∧ CE 42 [.inr a] ((n, kd, ln), iv, rv) (fun v h' => K (pc + 3) ls (v.toList ++ st) h' (bc - 0) (bs - 0))) = _
  simp only [List.length_cons, Nat.le_add_left, Nat.zero_le, true_and, Nat.sub_zero]
theorem c_43 {i a : Nat} {v1 : AV} : stp CE K Q rt (some (.invokevirtual i, q1, 43, q3, q4)) pc ls (v1 :: .inr a :: st) ((n, kd, ln), iv, rv) bc bs = (kd a = 11 ∧ st.length ≤ 8 ∧ CE 43 [.inr a, v1] ((n, kd, ln), iv, rv) (fun v h' => K (pc + 3) ls (v.toList ++ st) h' bc bs)) := by
  show (2 ≤ (v1 :: .inr a :: st).length ∧ kd a = 11 ∧ st.length ≤ 8 ∧ 0 ≤ bc ∧ 0 ≤ bs ∧ CE 43 [.inr a, v1] ((n, kd, ln), iv, rv) (fun v h' => K (pc + 3) ls (v.toList ++ st) h' (bc - 0) (bs - 0))) = _
  simp only [List.length_cons, Nat.le_add_left, Nat.zero_le, true_and, Nat.sub_zero]
theorem c_44 {i a : Nat} {v1 v2 : AV} : stp CE K Q rt (some (.invokevirtual i, q1, 44, q3, q4)) pc ls (v2 :: v1 :: .inr a :: st) ((n, kd, ln), iv, rv) bc bs = (kd a = 11 ∧ st.length ≤ 8 ∧ CE 44 [.inr a, v1, v2] ((n, kd, ln), iv, rv) (fun v h' => K (pc + 3) ls (v.toList ++ st) h' bc bs)) := by
  show (3 ≤ (v2 :: v1 :: .inr a :: st).length ∧ kd a = 11 ∧ st.length ≤ 8 ∧ 0 ≤ bc ∧ 0 ≤ bs ∧ CE 44 [.inr a, v1, v2] ((n, kd, ln), iv, rv) (fun v h' => K (pc + 3) ls (v.toList ++ st) h' (bc - 0) (bs - 0))) = _
  simp only [List.length_cons, Nat.le_add_left, Nat.zero_le, true_and, Nat.sub_zero]
theorem c_45 {i a : Nat} {v1 : AV} : stp CE K Q rt (some (.invokevirtual i, q1, 45, q3, q4)) pc ls (v1 :: .inr a :: st) ((n, kd, ln), iv, rv) bc bs = (kd a = 11 ∧ st.length ≤ 8 ∧ CE 45 [.inr a, v1] ((n, kd, ln), iv, rv) (fun v h' => K (pc + 3) ls (v.toList ++ st) h' bc bs)) := by
  show (2 ≤ (v1 :: .inr a :: st).length ∧ kd a = 11 ∧ st.length ≤ 8 ∧ 0 ≤ bc ∧ 0 ≤ bs ∧ CE 45 [.inr a, v1] ((n, kd, ln), iv, rv) (fun v h' => K (pc + 3) ls (v.toList ++ st) h' (bc - 0) (bs - 0))) = _
  simp only [List.length_cons, Nat.le_add_left, Nat.zero_le, true_and, Nat.sub_zero]
theorem c_46 {i a : Nat} {v1 : AV} : stp CE K Q rt (some (.invokevirtual i, q1, 46, q3, q4)) pc ls (v1 :: .inr a :: st) ((n, kd, ln), iv, rv) bc bs = (kd a = 11 ∧ st.length ≤ 8 ∧ CE 46 [.inr a, v1] ((n, kd, ln), iv, rv) (fun v h' => K (pc + 3) ls (v.toList ++ st) h' bc bs)) := by
  show (2 ≤ (v1 :: .inr a :: st).length ∧ kd a = 11 ∧ st.length ≤ 8 ∧ 0 ≤ bc ∧ 0 ≤ bs ∧ CE 46 [.inr a, v1] ((n, kd, ln), iv, rv) (fun v h' => K (pc + 3) ls (v.toList ++ st) h' (bc - 0) (bs - 0))) = _
  simp only [List.length_cons, Nat.le_add_left, Nat.zero_le, true_and, Nat.sub_zero]
theorem c_47 {i a : Nat} {v1 v2 : AV} : stp CE K Q rt (some (.invokevirtual i, q1, 47, q3, q4)) pc ls (v2 :: v1 :: .inr a :: st) ((n, kd, ln), iv, rv) bc bs = (kd a = 11 ∧ st.length ≤ 8 ∧ CE 47 [.inr a, v1, v2] ((n, kd, ln), iv, rv) (fun v h' => K (pc + 3) ls (v.toList ++ st) h' bc bs)) := by
  show (3 ≤ (v2 :: v1 :: .inr a :: st).length ∧ kd a = 11 ∧ st.length ≤ 8 ∧ 0 ≤ bc ∧ 0 ≤ bs ∧ CE 47 [.inr a, v1, v2] ((n, kd, ln), iv, rv) (fun v h' => K (pc + 3) ls (v.toList ++ st) h' (bc - 0) (bs - 0))) = _
  simp only [List.length_cons, Nat.le_add_left, Nat.zero_le, true_and, Nat.sub_zero]
theorem c_48 {i a : Nat} {v1 : AV} : stp CE K Q rt (some (.invokevirtual i, q1, 48, q3, q4)) pc ls (v1 :: .inr a :: st) ((n, kd, ln), iv, rv) bc bs = (kd a = 11 ∧ st.length ≤ 8 ∧ CE 48 [.inr a, v1] ((n, kd, ln), iv, rv) (fun v h' => K (pc + 3) ls (v.toList ++ st) h' bc bs)) := by
  show (2 ≤ (v1 :: .inr a :: st).length ∧ kd a = 11 ∧ st.length ≤ 8 ∧ 0 ≤ bc ∧ 0 ≤ bs ∧ CE 48 [.inr a, v1] ((n, kd, ln), iv, rv) (fun v h' => K (pc + 3) ls (v.toList ++ st) h' (bc - 0) (bs - 0))) = _
  simp only [List.length_cons, Nat.le_add_left, Nat.zero_le, true_and, Nat.sub_zero]
theorem c_49 {i a : Nat} {v1 : AV} : stp CE K Q rt (some (.invokevirtual i, q1, 49, q3, q4)) pc ls (v1 :: .inr a :: st) ((n, kd, ln), iv, rv) bc bs = (kd a = 11 ∧ st.length ≤ 8 ∧ CE 49 [.inr a, v1] ((n, kd, ln), iv, rv) (fun v h' => K (pc + 3) ls (v.toList ++ st) h' bc bs)) := by
  show (2 ≤ (v1 :: .inr a :: st).length ∧ kd a = 11 ∧ st.length ≤ 8 ∧ 0 ≤ bc ∧ 0 ≤ bs ∧ CE 49 [.inr a, v1] ((n, kd, ln), iv, rv) (fun v h' => K (pc + 3) ls (v.toList ++ st) h' (bc - 0) (bs - 0))) = _
  simp only [List.length_cons, Nat.le_add_left, Nat.zero_le, true_and, Nat.sub_zero]
theorem c_50 {i a : Nat} {v1 v2 v3 : AV} : stp CE K Q rt (some (.invokevirtual i, q1, 50, q3, q4)) pc ls (v3 :: v2 :: v1 :: .inr a :: st) ((n, kd, ln), iv, rv) bc bs = (kd a = 11 ∧ st.length ≤ 8 ∧ 1 ≤ bc ∧ 3 ≤ bs ∧ CE 50 [.inr a, v1, v2, v3] ((n, kd, ln), iv, rv) (fun v h' => K (pc + 3) ls (v.toList ++ st) h' (bc - 1) (bs - 3))) := by
  show (4 ≤ (v3 :: v2 :: v1 :: .inr a :: st).length ∧ kd a = 11 ∧ st.length ≤ 8 ∧ 1 ≤ bc ∧ 3 ≤ bs ∧ CE 50 [.inr a, v1, v2, v3] ((n, kd, ln), iv, rv) (fun v h' => K (pc + 3) ls (v.toList ++ st) h' (bc - 1) (bs - 3))) = _
  simp only [List.length_cons, Nat.le_add_left, Nat.zero_le, true_and, Nat.sub_zero]
theorem c_51 {i a : Nat} {v1 : AV} : stp CE K Q rt (some (.invokevirtual i, q1, 51, q3, q4)) pc ls (v1 :: .inr a :: st) ((n, kd, ln), iv, rv) bc bs = (kd a = 11 ∧ st.length ≤ 8 ∧ CE 51 [.inr a, v1] ((n, kd, ln), iv, rv) (fun v h' => K (pc + 3) ls (v.toList ++ st) h' bc bs)) := by
  show (2 ≤ (v1 :: .inr a :: st).length ∧ kd a = 11 ∧ st.length ≤ 8 ∧ 0 ≤ bc ∧ 0 ≤ bs ∧ CE 51 [.inr a, v1] ((n, kd, ln), iv, rv) (fun v h' => K (pc + 3) ls (v.toList ++ st) h' (bc - 0) (bs - 0))) = _
  simp only [List.length_cons, Nat.le_add_left, Nat.zero_le, true_and, Nat.sub_zero]
theorem c_52 {i a : Nat} {v1 : AV} : stp CE K Q rt (some (.invokevirtual i, q1, 52, q3, q4)) pc ls (v1 :: .inr a :: st) ((n, kd, ln), iv, rv) bc bs = (kd a = 11 ∧ st.length ≤ 8 ∧ CE 52 [.inr a, v1] ((n, kd, ln), iv, rv) (fun v h' => K (pc + 3) ls (v.toList ++ st) h' bc bs)) := by
  show (2 ≤ (v1 :: .inr a :: st).length ∧ kd a = 11 ∧ st.length ≤ 8 ∧ 0 ≤ bc ∧ 0 ≤ bs ∧ CE 52 [.inr a, v1] ((n, kd, ln), iv, rv) (fun v h' => K (pc + 3) ls (v.toList ++ st) h' (bc - 0) (bs - 0))) = _
  simp only [List.length_cons, Nat.le_add_left, Nat.zero_le, true_and, Nat.sub_zero]
theorem c_53 {i a : Nat} {v1 v2 : AV} : stp CE K Q rt (some (.invokevirtual i, q1, 53, q3, q4)) pc ls (v2 :: v1 :: .inr a :: st) ((n, kd, ln), iv, rv) bc bs = (kd a = 11 ∧ st.length ≤ 8 ∧ 1 ≤ bc ∧ 3 ≤ bs ∧ CE 53 [.inr a, v1, v2] ((n, kd, ln), iv, rv) (fun v h' => K (pc + 3) ls (v.toList ++ st) h' (bc - 1) (bs - 3))) := by
  show (3 ≤ (v2 :: v1 :: .inr a :: st).length ∧ kd a = 11 ∧ st.length ≤ 8 ∧ 1 ≤ bc ∧ 3 ≤ bs ∧ CE 53 [.inr a, v1, v2] ((n, kd, ln), iv, rv) (fun v h' => K (pc + 3) ls (v.toList ++ st) h' (bc - 1) (bs - 3))) = _
  simp only [List.length_cons, Nat.le_add_left, Nat.zero_le, true_and, Nat.sub_zero]
theorem c_54 {i a : Nat} {v1 v2 : AV} : stp CE K Q rt (some (.invokevirtual i, q1, 54, q3, q4)) pc ls (v2 :: v1 :: .inr a :: st) ((n, kd, ln), iv, rv) bc bs = (kd a = 11 ∧ st.length ≤ 8 ∧ CE 54 [.inr a, v1, v2] ((n, kd, ln), iv, rv) (fun v h' => K (pc + 3) ls (v.toList ++ st) h' bc bs)) := by
  show (3 ≤ (v2 :: v1 :: .inr a :: st).length ∧ kd a = 11 ∧ st.length ≤ 8 ∧ 0 ≤ bc ∧ 0 ≤ bs ∧ CE 54 [.inr a, v1, v2] ((n, kd, ln), iv, rv) (fun v h' => K (pc + 3) ls (v.toList ++ st) h' (bc - 0) (bs - 0))) = _
  simp only [List.length_cons, Nat.le_add_left, Nat.zero_le, true_and, Nat.sub_zero]
theorem c_55 {i a : Nat} {v1 : AV} : stp CE K Q rt (some (.invokevirtual i, q1, 55, q3, q4)) pc ls (v1 :: .inr a :: st) ((n, kd, ln), iv, rv) bc bs = (kd a = 11 ∧ st.length ≤ 8 ∧ CE 55 [.inr a, v1] ((n, kd, ln), iv, rv) (fun v h' => K (pc + 3) ls (v.toList ++ st) h' bc bs)) := by
  show (2 ≤ (v1 :: .inr a :: st).length ∧ kd a = 11 ∧ st.length ≤ 8 ∧ 0 ≤ bc ∧ 0 ≤ bs ∧ CE 55 [.inr a, v1] ((n, kd, ln), iv, rv) (fun v h' => K (pc + 3) ls (v.toList ++ st) h' (bc - 0) (bs - 0))) = _
  simp only [List.length_cons, Nat.le_add_left, Nat.zero_le, true_and, Nat.sub_zero]
theorem c_56 {i a : Nat} {v1 v2 : AV} : stp CE K Q rt (some (.invokevirtual i, q1, 56, q3, q4)) pc ls (v2 :: v1 :: .inr a :: st) ((n, kd, ln), iv, rv) bc bs = (kd a = 11 ∧ st.length ≤ 8 ∧ CE 56 [.inr a, v1, v2] ((n, kd, ln), iv, rv) (fun v h' => K (pc + 3) ls (v.toList ++ st) h' bc bs)) := by
  show (3 ≤ (v2 :: v1 :: .inr a :: st).length ∧ kd a = 11 ∧ st.length ≤ 8 ∧ 0 ≤ bc ∧ 0 ≤ bs ∧ CE 56 [.inr a, v1, v2] ((n, kd, ln), iv, rv) (fun v h' => K (pc + 3) ls (v.toList ++ st) h' (bc - 0) (bs - 0))) = _
  simp only [List.length_cons, Nat.le_add_left, Nat.zero_le, true_and, Nat.sub_zero]
theorem c_57 {i a : Nat} {v1 v2 : AV} : stp CE K Q rt (some (.invokevirtual i, q1, 57, q3, q4)) pc ls (v2 :: v1 :: .inr a :: st) ((n, kd, ln), iv, rv) bc bs = (kd a = 11 ∧ st.length ≤ 8 ∧ CE 57 [.inr a, v1, v2] ((n, kd, ln), iv, rv) (fun v h' => K (pc + 3) ls (v.toList ++ st) h' bc bs)) := by
  show (3 ≤ (v2 :: v1 :: .inr a :: st).length ∧ kd a = 11 ∧ st.length ≤ 8 ∧ 0 ≤ bc ∧ 0 ≤ bs ∧ CE 57 [.inr a, v1, v2] ((n, kd, ln), iv, rv) (fun v h' => K (pc + 3) ls (v.toList ++ st) h' (bc - 0) (bs - 0))) = _
  simp only [List.length_cons, Nat.le_add_left, Nat.zero_le, true_and, Nat.sub_zero]
theorem c_58 {i a : Nat} {v1 v2 : AV} : stp CE K Q rt (some (.invokevirtual i, q1, 58, q3, q4)) pc ls (v2 :: v1 :: .inr a :: st) ((n, kd, ln), iv, rv) bc bs = (kd a = 11 ∧ st.length ≤ 8 ∧ CE 58 [.inr a, v1, v2] ((n, kd, ln), iv, rv) (fun v h' => K (pc + 3) ls (v.toList ++ st) h' bc bs)) := by
  show (3 ≤ (v2 :: v1 :: .inr a :: st).length ∧ kd a = 11 ∧ st.length ≤ 8 ∧ 0 ≤ bc ∧ 0 ≤ bs ∧ CE 58 [.inr a, v1, v2] ((n, kd, ln), iv, rv) (fun v h' => K (pc + 3) ls (v.toList ++ st) h' (bc - 0) (bs - 0))) = _
  simp only [List.length_cons, Nat.le_add_left, Nat.zero_le, true_and, Nat.sub_zero]
theorem c_59 {i a : Nat} {v1 v2 : AV} : stp CE K Q rt (some (.invokevirtual i, q1, 59, q3, q4)) pc ls (v2 :: v1 :: .inr a :: st) ((n, kd, ln), iv, rv) bc bs = (kd a = 11 ∧ st.length ≤ 8 ∧ CE 59 [.inr a, v1, v2] ((n, kd, ln), iv, rv) (fun v h' => K (pc + 3) ls (v.toList ++ st) h' bc bs)) := by
  show (3 ≤ (v2 :: v1 :: .inr a :: st).length ∧ kd a = 11 ∧ st.length ≤ 8 ∧ 0 ≤ bc ∧ 0 ≤ bs ∧ CE 59 [.inr a, v1, v2] ((n, kd, ln), iv, rv) (fun v h' => K (pc + 3) ls (v.toList ++ st) h' (bc - 0) (bs - 0))) = _
  simp only [List.length_cons, Nat.le_add_left, Nat.zero_le, true_and, Nat.sub_zero]
theorem c_60 {i a : Nat} {v1 : AV} : stp CE K Q rt (some (.invokevirtual i, q1, 60, q3, q4)) pc ls (v1 :: .inr a :: st) ((n, kd, ln), iv, rv) bc bs = (kd a = 11 ∧ st.length ≤ 8 ∧ CE 60 [.inr a, v1] ((n, kd, ln), iv, rv) (fun v h' => K (pc + 3) ls (v.toList ++ st) h' bc bs)) := by
  show (2 ≤ (v1 :: .inr a :: st).length ∧ kd a = 11 ∧ st.length ≤ 8 ∧ 0 ≤ bc ∧ 0 ≤ bs ∧ CE 60 [.inr a, v1] ((n, kd, ln), iv, rv) (fun v h' => K (pc + 3) ls (v.toList ++ st) h' (bc - 0) (bs - 0))) = _
  simp only [List.length_cons, Nat.le_add_left, Nat.zero_le, true_and, Nat.sub_zero]
theorem c_61 {i : Nat} {v0 : AV} : stp CE K Q rt (some (.invokestatic i, q1, 61, q3, q4)) pc ls (v0 :: st) ((n, kd, ln), iv, rv) bc bs = (st.length ≤ 8 ∧ CE 61 [v0] ((n, kd, ln), iv, rv) (fun v h' => K (pc + 3) ls (v.toList ++ st) h' bc bs)) := by
  show (1 ≤ (v0 :: st).length ∧ st.length ≤ 8 ∧ 0 ≤ bc ∧ 0 ≤ bs ∧ CE 61 [v0] ((n, kd, ln), iv, rv) (fun v h' => K (pc + 3) ls (v.toList ++ st) h' (bc - 0) (bs - 0))) = _
  simp only [List.length_cons, Nat.le_add_left, Nat.zero_le, true_and, Nat.sub_zero]
theorem c_62 {i : Nat} {v0 : AV} : stp CE K Q rt (some (.invokestatic i, q1, 62, q3, q4)) pc ls (v0 :: st) ((n, kd, ln), iv, rv) bc bs = (st.length ≤ 8 ∧ CE 62 [v0] ((n, kd, ln), iv, rv) (fun v h' => K (pc + 3) ls (v.toList ++ st) h' bc bs)) := by
  show (1 ≤ (v0 :: st).length ∧ st.length ≤ 8 ∧ 0 ≤ bc ∧ 0 ≤ bs ∧ CE 62 [v0] ((n, kd, ln), iv, rv) (fun v h' => K (pc + 3) ls (v.toList ++ st) h' (bc - 0) (bs - 0))) = _
  simp only [List.length_cons, Nat.le_add_left, Nat.zero_le, true_and, Nat.sub_zero]
theorem c_63 {i : Nat} {v0 : AV} : stp CE K Q rt (some (.invokestatic i, q1, 63, q3, q4)) pc ls (v0 :: st) ((n, kd, ln), iv, rv) bc bs = (st.length ≤ 8 ∧ CE 63 [v0] ((n, kd, ln), iv, rv) (fun v h' => K (pc + 3) ls (v.toList ++ st) h' bc bs)) := by
  show (1 ≤ (v0 :: st).length ∧ st.length ≤ 8 ∧ 0 ≤ bc ∧ 0 ≤ bs ∧ CE 63 [v0] ((n, kd, ln), iv, rv) (fun v h' => K (pc + 3) ls (v.toList ++ st) h' (bc - 0) (bs - 0))) = _
  simp only [List.length_cons, Nat.le_add_left, Nat.zero_le, true_and, Nat.sub_zero]
theorem c_64 {i a : Nat} {v1 : AV} : stp CE K Q rt (some (.invokevirtual i, q1, 64, q3, q4)) pc ls (v1 :: .inr a :: st) ((n, kd, ln), iv, rv) bc bs = (kd a = 11 ∧ st.length ≤ 8 ∧ CE 64 [.inr a, v1] ((n, kd, ln), iv, rv) (fun v h' => K (pc + 3) ls (v.toList ++ st) h' bc bs)) := by
  show (2 ≤ (v1 :: .inr a :: st).length ∧ kd a = 11 ∧ st.length ≤ 8 ∧ 0 ≤ bc ∧ 0 ≤ bs ∧ CE 64 [.inr a, v1] ((n, kd, ln), iv, rv) (fun v h' => K (pc + 3) ls (v.toList ++ st) h' (bc - 0) (bs - 0))) = _
  simp only [List.length_cons, Nat.le_add_left, Nat.zero_le, true_and, Nat.sub_zero]
theorem c_65 {i a : Nat} {v1 : AV} : stp CE K Q rt (some (.invokevirtual i, q1, 65, q3, q4)) pc ls (v1 :: .inr a :: st) ((n, kd, ln), iv, rv) bc bs = (kd a = 11 ∧ st.length ≤ 8 ∧ CE 65 [.inr a, v1] ((n, kd, ln), iv, rv) (fun v h' => K (pc + 3) ls (v.toList ++ st) h' bc bs)) := by
  show (2 ≤ (v1 :: .inr a :: st).length ∧ kd a = 11 ∧ st.length ≤ 8 ∧ 0 ≤ bc ∧ 0 ≤ bs ∧ CE 65 [.inr a, v1] ((n, kd, ln), iv, rv) (fun v h' => K (pc + 3) ls (v.toList ++ st) h' (bc - 0) (bs - 0))) = _
  simp only [List.length_cons, Nat.le_add_left, Nat.zero_le, true_and, Nat.sub_zero]
theorem c_66 {i a : Nat} {v1 : AV} : stp CE K Q rt (some (.invokevirtual i, q1, 66, q3, q4)) pc ls (v1 :: .inr a :: st) ((n, kd, ln), iv, rv) bc bs = (kd a = 11 ∧ st.length ≤ 8 ∧ CE 66 [.inr a, v1] ((n, kd, ln), iv, rv) (fun v h' => K (pc + 3) ls (v.toList ++ st) h' bc bs)) := by
  show (2 ≤ (v1 :: .inr a :: st).length ∧ kd a = 11 ∧ st.length ≤ 8 ∧ 0 ≤ bc ∧ 0 ≤ bs ∧ CE 66 [.inr a, v1] ((n, kd, ln), iv, rv) (fun v h' => K (pc + 3) ls (v.toList ++ st) h' (bc - 0) (bs - 0))) = _
  simp only [List.length_cons, Nat.le_add_left, Nat.zero_le, true_and, Nat.sub_zero]
theorem c_67 {i a : Nat} {v1 : AV} : stp CE K Q rt (some (.invokevirtual i, q1, 67, q3, q4)) pc ls (v1 :: .inr a :: st) ((n, kd, ln), iv, rv) bc bs = (kd a = 11 ∧ st.length ≤ 8 ∧ CE 67 [.inr a, v1] ((n, kd, ln), iv, rv) (fun v h' => K (pc + 3) ls (v.toList ++ st) h' bc bs)) := by
  show (2 ≤ (v1 :: .inr a :: st).length ∧ kd a = 11 ∧ st.length ≤ 8 ∧ 0 ≤ bc ∧ 0 ≤ bs ∧ CE 67 [.inr a, v1] ((n, kd, ln), iv, rv) (fun v h' => K (pc + 3) ls (v.toList ++ st) h' (bc - 0) (bs - 0))) = _
  simp only [List.length_cons, Nat.le_add_left, Nat.zero_le, true_and, Nat.sub_zero]
theorem c_68 {i a : Nat} {v1 : AV} : stp CE K Q rt (some (.invokevirtual i, q1, 68, q3, q4)) pc ls (v1 :: .inr a :: st) ((n, kd, ln), iv, rv) bc bs = (kd a = 11 ∧ st.length ≤ 8 ∧ CE 68 [.inr a, v1] ((n, kd, ln), iv, rv) (fun v h' => K (pc + 3) ls (v.toList ++ st) h' bc bs)) := by
  show (2 ≤ (v1 :: .inr a :: st).length ∧ kd a = 11 ∧ st.length ≤ 8 ∧ 0 ≤ bc ∧ 0 ≤ bs ∧ CE 68 [.inr a, v1] ((n, kd, ln), iv, rv) (fun v h' => K (pc + 3) ls (v.toList ++ st) h' (bc - 0) (bs - 0))) = _
  simp only [List.length_cons, Nat.le_add_left, Nat.zero_le, true_and, Nat.sub_zero]
theorem c_69 {i a : Nat}  : stp CE K Q rt (some (.invokevirtual i, q1, 69, q3, q4)) pc ls (.inr a :: st) ((n, kd, ln), iv, rv) bc bs = (kd a = 11 ∧ st.length ≤ 8 ∧ CE 69 [.inr a] ((n, kd, ln), iv, rv) (fun v h' => K (pc + 3) ls (v.toList ++ st) h' bc bs)) := by
  show (1 ≤ (.inr a :: st).length ∧ kd a = 11 ∧ st.length ≤ 8 ∧ 0 ≤ bc ∧ 0 ≤ bs ∧ CE 69 [.inr a] ((n, kd, ln), iv, rv) (fun v h' => K (pc + 3) ls (v.toList ++ st) h' (bc - 0) (bs - 0))) = _
  simp only [List.length_cons, Nat.le_add_left, Nat.zero_le, true_and, Nat.sub_zero]
theorem c_70 {i a : Nat} {v1 v2 : AV} : stp CE K Q rt (some (.invokevirtual i, q1, 70, q3, q4)) pc ls (v2 :: v1 :: .inr a :: st) ((n, kd, ln), iv, rv) bc bs = (kd a = 11 ∧ st.length ≤ 8 ∧ CE 70 [.inr a, v1, v2] ((n, kd, ln), iv, rv) (fun v h' => K (pc + 3) ls (v.toList ++ st) h' bc bs)) := by
  show (3 ≤ (v2 :: v1 :: .inr a :: st).length ∧ kd a = 11 ∧ st.length ≤ 8 ∧ 0 ≤ bc ∧ 0 ≤ bs ∧ CE 70 [.inr a, v1, v2] ((n, kd, ln), iv, rv) (fun v h' => K (pc + 3) ls (v.toList ++ st) h' (bc - 0) (bs - 0))) = _
  simp only [List.length_cons, Nat.le_add_left, Nat.zero_le, true_and, Nat.sub_zero]
theorem c_71 {i a : Nat} {v1 v2 : AV} : stp CE K Q rt (some (.invokevirtual i, q1, 71, q3, q4)) pc ls (v2 :: v1 :: .inr a :: st) ((n, kd, ln), iv, rv) bc bs = (kd a = 11 ∧ st.length ≤ 8 ∧ CE 71 [.inr a, v1, v2] ((n, kd, ln), iv, rv) (fun v h' => K (pc + 3) ls (v.toList ++ st) h' bc bs)) := by
  show (3 ≤ (v2 :: v1 :: .inr a :: st).length ∧ kd a = 11 ∧ st.length ≤ 8 ∧ 0 ≤ bc ∧ 0 ≤ bs ∧ CE 71 [.inr a, v1, v2] ((n, kd, ln), iv, rv) (fun v h' => K (pc + 3) ls (v.toList ++ st) h' (bc - 0) (bs - 0))) = _
  simp only [List.length_cons, Nat.le_add_left, Nat.zero_le, true_and, Nat.sub_zero]
theorem c_72 {i : Nat} {v0 v1 v2 : AV} : stp CE K Q rt (some (.invokestatic i, q1, 72, q3, q4)) pc ls (v2 :: v1 :: v0 :: st) ((n, kd, ln), iv, rv) bc bs = (st.length ≤ 8 ∧ CE 72 [v0, v1, v2] ((n, kd, ln), iv, rv) (fun v h' => K (pc + 3) ls (v.toList ++ st) h' bc bs)) := by
  show (3 ≤ (v2 :: v1 :: v0 :: st).length ∧ st.length ≤ 8 ∧ 0 ≤ bc ∧ 0 ≤ bs ∧ CE 72 [v0, v1, v2] ((n, kd, ln), iv, rv) (fun v h' => K (pc + 3) ls (v.toList ++ st) h' (bc - 0) (bs - 0))) = _
  simp only [List.length_cons, Nat.le_add_left, Nat.zero_le, true_and, Nat.sub_zero]
theorem c_73 {i a : Nat} {v1 v2 v3 : AV} : stp CE K Q rt (some (.invokevirtual i, q1, 73, q3, q4)) pc ls (v3 :: v2 :: v1 :: .inr a :: st) ((n, kd, ln), iv, rv) bc bs = (kd a = 11 ∧ st.length ≤ 8 ∧ CE 73 [.inr a, v1, v2, v3] ((n, kd, ln), iv, rv) (fun v h' => K (pc + 3) ls (v.toList ++ st) h' bc bs)) := by
  show (4 ≤ (v3 :: v2 :: v1 :: .inr a :: st).length ∧ kd a = 11 ∧ st.length ≤ 8 ∧ 0 ≤ bc ∧ 0 ≤ bs ∧ CE 73 [.inr a, v1, v2, v3] ((n, kd, ln), iv, rv) (fun v h' => K (pc + 3) ls (v.toList ++ st) h' (bc - 0) (bs - 0))) = _
  simp only [List.length_cons, Nat.le_add_left, Nat.zero_le, true_and, Nat.sub_zero]
theorem c_74 {i a : Nat}  : stp CE K Q rt (some (.invokevirtual i, q1, 74, q3, q4)) pc ls (.inr a :: st) ((n, kd, ln), iv, rv) bc bs = (kd a = 11 ∧ st.length ≤ 8 ∧ CE 74 [.inr a] ((n, kd, ln), iv, rv) (fun v h' => K (pc + 3) ls (v.toList ++ st) h' bc bs)) := by
  show (1 ≤ (.inr a :: st).length ∧ kd a = 11 ∧ st.length ≤ 8 ∧ 0 ≤ bc ∧ 0 ≤ bs ∧ CE 74 [.inr a] ((n, kd, ln), iv, rv) (fun v h' => K (pc + 3) ls (v.toList ++ st) h' (bc - 0) (bs - 0))) = _
  simp only [List.length_cons, Nat.le_add_left, Nat.zero_le, true_and, Nat.sub_zero]
theorem c_75 {i a : Nat}  : stp CE K Q rt (some (.invokevirtual i, q1, 75, q3, q4)) pc ls (.inr a :: st) ((n, kd, ln), iv, rv) bc bs = (kd a = 11 ∧ st.length ≤ 8 ∧ CE 75 [.inr a] ((n, kd, ln), iv, rv) (fun v h' => K (pc + 3) ls (v.toList ++ st) h' bc bs)) := by
  show (1 ≤ (.inr a :: st).length ∧ kd a = 11 ∧ st.length ≤ 8 ∧ 0 ≤ bc ∧ 0 ≤ bs ∧ CE 75 [.inr a] ((n, kd, ln), iv, rv) (fun v h' => K (pc + 3) ls (v.toList ++ st) h' (bc - 0) (bs - 0))) = _
  simp only [List.length_cons, Nat.le_add_left, Nat.zero_le, true_and, Nat.sub_zero]
theorem c_76 {i a : Nat}  : stp CE K Q rt (some (.invokevirtual i, q1, 76, q3, q4)) pc ls (.inr a :: st) ((n, kd, ln), iv, rv) bc bs = (kd a = 11 ∧ st.length ≤ 8 ∧ CE 76 [.inr a] ((n, kd, ln), iv, rv) (fun v h' => K (pc + 3) ls (v.toList ++ st) h' bc bs)) := by
  show (1 ≤ (.inr a :: st).length ∧ kd a = 11 ∧ st.length ≤ 8 ∧ 0 ≤ bc ∧ 0 ≤ bs ∧ CE 76 [.inr a] ((n, kd, ln), iv, rv) (fun v h' => K (pc + 3) ls (v.toList ++ st) h' (bc - 0) (bs - 0))) = _
  simp only [List.length_cons, Nat.le_add_left, Nat.zero_le, true_and, Nat.sub_zero]
theorem c_77 {i a : Nat} {v1 : AV} : stp CE K Q rt (some (.invokevirtual i, q1, 77, q3, q4)) pc ls (v1 :: .inr a :: st) ((n, kd, ln), iv, rv) bc bs = (kd a = 11 ∧ st.length ≤ 8 ∧ CE 77 [.inr a, v1] ((n, kd, ln), iv, rv) (fun v h' => K (pc + 3) ls (v.toList ++ st) h' bc bs)) := by
  show (2 ≤ (v1 :: .inr a :: st).length ∧ kd a = 11 ∧ st.length ≤ 8 ∧ 0 ≤ bc ∧ 0 ≤ bs ∧ CE 77 [.inr a, v1] ((n, kd, ln), iv, rv) (fun v h' => K (pc + 3) ls (v.toList ++ st) h' (bc - 0) (bs - 0))) = _
  simp only [List.length_cons, Nat.le_add_left, Nat.zero_le, true_and, Nat.sub_zero]
theorem c_78 {i a : Nat}  : stp CE K Q rt (some (.invokespecial i, q1, 78, q3, q4)) pc ls (.inr a :: st) ((n, kd, ln), iv, rv) bc bs = (kd a = 12 ∧ st.length ≤ 8 ∧ 40 ≤ bc ∧ 4000 ≤ bs ∧ CE 78 [.inr a] ((n, kd, ln), iv, rv) (fun v h' => K (pc + 3) ls (v.toList ++ st) h' (bc - 40) (bs - 4000))) := by
  show (1 ≤ (.inr a :: st).length ∧ kd a = 12 ∧ st.length ≤ 8 ∧ 40 ≤ bc ∧ 4000 ≤ bs ∧ CE 78 [.inr a] ((n, kd, ln), iv, rv) (fun v h' => K (pc + 3) ls (v.toList ++ st) h' (bc - 40) (bs - 4000))) = _
  simp only [List.length_cons, Nat.le_add_left, Nat.zero_le, true_and, Nat.sub_zero]
theorem c_79 {i : Nat} {v0 v1 v2 : AV} : stp CE K Q rt (some (.invokestatic i, q1, 79, q3, q4)) pc ls (v2 :: v1 :: v0 :: st) ((n, kd, ln), iv, rv) bc bs = (st.length ≤ 8 ∧ CE 79 [v0, v1, v2] ((n, kd, ln), iv, rv) (fun v h' => K (pc + 3) ls (v.toList ++ st) h' bc bs)) := by
  show (3 ≤ (v2 :: v1 :: v0 :: st).length ∧ st.length ≤ 8 ∧ 0 ≤ bc ∧ 0 ≤ bs ∧ CE 79 [v0, v1, v2] ((n, kd, ln), iv, rv) (fun v h' => K (pc + 3) ls (v.toList ++ st) h' (bc - 0) (bs - 0))) = _
  simp only [List.length_cons, Nat.le_add_left, Nat.zero_le, true_and, Nat.sub_zero]
theorem c_80 {i : Nat} {v0 : AV} : stp CE K Q rt (some (.invokestatic i, q1, 80, q3, q4)) pc ls (v0 :: st) ((n, kd, ln), iv, rv) bc bs = (st.length ≤ 8 ∧ CE 80 [v0] ((n, kd, ln), iv, rv) (fun v h' => K (pc + 3) ls (v.toList ++ st) h' bc bs)) := by
  show (1 ≤ (v0 :: st).length ∧ st.length ≤ 8 ∧ 0 ≤ bc ∧ 0 ≤ bs ∧ CE 80 [v0] ((n, kd, ln), iv, rv) (fun v h' => K (pc + 3) ls (v.toList ++ st) h' (bc - 0) (bs - 0))) = _
  simp only [List.length_cons, Nat.le_add_left, Nat.zero_le, true_and, Nat.sub_zero]
theorem c_81 {i a : Nat} {v1 : AV} : stp CE K Q rt (some (.invokevirtual i, q1, 81, q3, q4)) pc ls (v1 :: .inr a :: st) ((n, kd, ln), iv, rv) bc bs = (kd a = 12 ∧ st.length ≤ 8 ∧ CE 81 [.inr a, v1] ((n, kd, ln), iv, rv) (fun v h' => K (pc + 3) ls (v.toList ++ st) h' bc bs)) := by
  show (2 ≤ (v1 :: .inr a :: st).length ∧ kd a = 12 ∧ st.length ≤ 8 ∧ 0 ≤ bc ∧ 0 ≤ bs ∧ CE 81 [.inr a, v1] ((n, kd, ln), iv, rv) (fun v h' => K (pc + 3) ls (v.toList ++ st) h' (bc - 0) (bs - 0))) = _
  simp only [List.length_cons, Nat.le_add_left, Nat.zero_le, true_and, Nat.sub_zero]
theorem c_82 {i a : Nat} {v1 : AV} : stp CE K Q rt (some (.invokevirtual i, q1, 82, q3, q4)) pc ls (v1 :: .inr a :: st) ((n, kd, ln), iv, rv) bc bs = (kd a = 12 ∧ st.length ≤ 8 ∧ CE 82 [.inr a, v1] ((n, kd, ln), iv, rv) (fun v h' => K (pc + 3) ls (v.toList ++ st) h' bc bs)) := by
  show (2 ≤ (v1 :: .inr a :: st).length ∧ kd a = 12 ∧ st.length ≤ 8 ∧ 0 ≤ bc ∧ 0 ≤ bs ∧ CE 82 [.inr a, v1] ((n, kd, ln), iv, rv) (fun v h' => K (pc + 3) ls (v.toList ++ st) h' (bc - 0) (bs - 0))) = _
  simp only [List.length_cons, Nat.le_add_left, Nat.zero_le, true_and, Nat.sub_zero]
theorem c_83 {i a : Nat}  : stp CE K Q rt (some (.invokevirtual i, q1, 83, q3, q4)) pc ls (.inr a :: st) ((n, kd, ln), iv, rv) bc bs = (kd a = 12 ∧ st.length ≤ 8 ∧ CE 83 [.inr a] ((n, kd, ln), iv, rv) (fun v h' => K (pc + 3) ls (v.toList ++ st) h' bc bs)) := by
  show (1 ≤ (.inr a :: st).length ∧ kd a = 12 ∧ st.length ≤ 8 ∧ 0 ≤ bc ∧ 0 ≤ bs ∧ CE 83 [.inr a] ((n, kd, ln), iv, rv) (fun v h' => K (pc + 3) ls (v.toList ++ st) h' (bc - 0) (bs - 0))) = _
  simp only [List.length_cons, Nat.le_add_left, Nat.zero_le, true_and, Nat.sub_zero]
theorem c_84 {i a : Nat} {v1 v2 : AV} : stp CE K Q rt (some (.invokevirtual i, q1, 84, q3, q4)) pc ls (v2 :: v1 :: .inr a :: st) ((n, kd, ln), iv, rv) bc bs = (kd a = 12 ∧ st.length ≤ 8 ∧ CE 84 [.inr a, v1, v2] ((n, kd, ln), iv, rv) (fun v h' => K (pc + 3) ls (v.toList ++ st) h' bc bs)) := by
  show (3 ≤ (v2 :: v1 :: .inr a :: st).length ∧ kd a = 12 ∧ st.length ≤ 8 ∧ 0 ≤ bc ∧ 0 ≤ bs ∧ CE 84 [.inr a, v1, v2] ((n, kd, ln), iv, rv) (fun v h' => K (pc + 3) ls (v.toList ++ st) h' (bc - 0) (bs - 0))) = _
  simp only [List.length_cons, Nat.le_add_left, Nat.zero_le, true_and, Nat.sub_zero]
theorem c_85 {i a : Nat} {v1 v2 v3 : AV} : stp CE K Q rt (some (.invokevirtual i, q1, 85, q3, q4)) pc ls (v3 :: v2 :: v1 :: .inr a :: st) ((n, kd, ln), iv, rv) bc bs = (kd a = 12 ∧ st.length ≤ 8 ∧ CE 85 [.inr a, v1, v2, v3] ((n, kd, ln), iv, rv) (fun v h' => K (pc + 3) ls (v.toList ++ st) h' bc bs)) := by
  show (4 ≤ (v3 :: v2 :: v1 :: .inr a :: st).length ∧ kd a = 12 ∧ st.length ≤ 8 ∧ 0 ≤ bc ∧ 0 ≤ bs ∧ CE 85 [.inr a, v1, v2, v3] ((n, kd, ln), iv, rv) (fun v h' => K (pc + 3) ls (v.toList ++ st) h' (bc - 0) (bs - 0))) = _
  simp only [List.length_cons, Nat.le_add_left, Nat.zero_le, true_and, Nat.sub_zero]
theorem c_86 {i a : Nat} {v1 v2 : AV} : stp CE K Q rt (some (.invokevirtual i, q1, 86, q3, q4)) pc ls (v2 :: v1 :: .inr a :: st) ((n, kd, ln), iv, rv) bc bs = (kd a = 12 ∧ st.length ≤ 8 ∧ CE 86 [.inr a, v1, v2] ((n, kd, ln), iv, rv) (fun v h' => K (pc + 3) ls (v.toList ++ st) h' bc bs)) := by
  show (3 ≤ (v2 :: v1 :: .inr a :: st).length ∧ kd a = 12 ∧ st.length ≤ 8 ∧ 0 ≤ bc ∧ 0 ≤ bs ∧ CE 86 [.inr a, v1, v2] ((n, kd, ln), iv, rv) (fun v h' => K (pc + 3) ls (v.toList ++ st) h' (bc - 0) (bs - 0))) = _
  simp only [List.length_cons, Nat.le_add_left, Nat.zero_le, true_and, Nat.sub_zero]
theorem c_87 {i a : Nat} {v1 v2 : AV} : stp CE K Q rt (some (.invokevirtual i, q1, 87, q3, q4)) pc ls (v2 :: v1 :: .inr a :: st) ((n, kd, ln), iv, rv) bc bs = (kd a = 12 ∧ st.length ≤ 8 ∧ CE 87 [.inr a, v1, v2] ((n, kd, ln), iv, rv) (fun v h' => K (pc + 3) ls (v.toList ++ st) h' bc bs)) := by
  show (3 ≤ (v2 :: v1 :: .inr a :: st).length ∧ kd a = 12 ∧ st.length ≤ 8 ∧ 0 ≤ bc ∧ 0 ≤ bs ∧ CE 87 [.inr a, v1, v2] ((n, kd, ln), iv, rv) (fun v h' => K (pc + 3) ls (v.toList ++ st) h' (bc - 0) (bs - 0))) = _
  simp only [List.length_cons, Nat.le_add_left, Nat.zero_le, true_and, Nat.sub_zero]
theorem c_88 {i a : Nat} {v1 v2 : AV} : stp CE K Q rt (some (.invokevirtual i, q1, 88, q3, q4)) pc ls (v2 :: v1 :: .inr a :: st) ((n, kd, ln), iv, rv) bc bs = (kd a = 12 ∧ st.length ≤ 8 ∧ CE 88 [.inr a, v1, v2] ((n, kd, ln), iv, rv) (fun v h' => K (pc + 3) ls (v.toList ++ st) h' bc bs)) := by
  show (3 ≤ (v2 :: v1 :: .inr a :: st).length ∧ kd a = 12 ∧ st.length ≤ 8 ∧ 0 ≤ bc ∧ 0 ≤ bs ∧ CE 88 [.inr a, v1, v2] ((n, kd, ln), iv, rv) (fun v h' => K (pc + 3) ls (v.toList ++ st) h' (bc - 0) (bs - 0))) = _
  simp only [List.length_cons, Nat.le_add_left, Nat.zero_le, true_and, Nat.sub_zero]
theorem c_89 {i a : Nat} {v1 : AV} : stp CE K Q rt (some (.invokevirtual i, q1, 89, q3, q4)) pc ls (v1 :: .inr a :: st) ((n, kd, ln), iv, rv) bc bs = (kd a = 12 ∧ st.length ≤ 8 ∧ CE 89 [.inr a, v1] ((n, kd, ln), iv, rv) (fun v h' => K (pc + 3) ls (v.toList ++ st) h' bc bs)) := by
  show (2 ≤ (v1 :: .inr a :: st).length ∧ kd a = 12 ∧ st.length ≤ 8 ∧ 0 ≤ bc ∧ 0 ≤ bs ∧ CE 89 [.inr a, v1] ((n, kd, ln), iv, rv) (fun v h' => K (pc + 3) ls (v.toList ++ st) h' (bc - 0) (bs - 0))) = _
  simp only [List.length_cons, Nat.le_add_left, Nat.zero_le, true_and, Nat.sub_zero]
theorem c_90 {i a : Nat} {v1 v2 : AV} : stp CE K Q rt (some (.invokevirtual i, q1, 90, q3, q4)) pc ls (v2 :: v1 :: .inr a :: st) ((n, kd, ln), iv, rv) bc bs = (kd a = 12 ∧ st.length ≤ 8 ∧ CE 90 [.inr a, v1, v2] ((n, kd, ln), iv, rv) (fun v h' => K (pc + 3) ls (v.toList ++ st) h' bc bs)) := by
  show (3 ≤ (v2 :: v1 :: .inr a :: st).length ∧ kd a = 12 ∧ st.length ≤ 8 ∧ 0 ≤ bc ∧ 0 ≤ bs ∧ CE 90 [.inr a, v1, v2] ((n, kd, ln), iv, rv) (fun v h' => K (pc + 3) ls (v.toList ++ st) h' (bc - 0) (bs - 0))) = _
  simp only [List.length_cons, Nat.le_add_left, Nat.zero_le, true_and, Nat.sub_zero]
theorem c_91 {i a : Nat} {v1 v2 : AV} : stp CE K Q rt (some (.invokevirtual i, q1, 91, q3, q4)) pc ls (v2 :: v1 :: .inr a :: st) ((n, kd, ln), iv, rv) bc bs = (kd a = 12 ∧ st.length ≤ 8 ∧ CE 91 [.inr a, v1, v2] ((n, kd, ln), iv, rv) (fun v h' => K (pc + 3) ls (v.toList ++ st) h' bc bs)) := by
  show (3 ≤ (v2 :: v1 :: .inr a :: st).length ∧ kd a = 12 ∧ st.length ≤ 8 ∧ 0 ≤ bc ∧ 0 ≤ bs ∧ CE 91 [.inr a, v1, v2] ((n, kd, ln), iv, rv) (fun v h' => K (pc + 3) ls (v.toList ++ st) h' (bc - 0) (bs - 0))) = _
  simp only [List.length_cons, Nat.le_add_left, Nat.zero_le, true_and, Nat.sub_zero]
theorem c_92 {i a : Nat}  : stp CE K Q rt (some (.invokevirtual i, q1, 92, q3, q4)) pc ls (.inr a :: st) ((n, kd, ln), iv, rv) bc bs = (kd a = 12 ∧ st.length ≤ 8 ∧ CE 92 [.inr a] ((n, kd, ln), iv, rv) (fun v h' => K (pc + 3) ls (v.toList ++ st) h' bc bs)) := by
  show (1 ≤ (.inr a :: st).length ∧ kd a = 12 ∧ st.length ≤ 8 ∧ 0 ≤ bc ∧ 0 ≤ bs ∧ CE 92 [.inr a] ((n, kd, ln), iv, rv) (fun v h' => K (pc + 3) ls (v.toList ++ st) h' (bc - 0) (bs - 0))) = _
  simp only [List.length_cons, Nat.le_add_left, Nat.zero_le, true_and, Nat.sub_zero]
theorem c_93 {i a : Nat}  : stp CE K Q rt (some (.invokevirtual i, q1, 93, q3, q4)) pc ls (.inr a :: st) ((n, kd, ln), iv, rv) bc bs = (kd a = 12 ∧ st.length ≤ 8 ∧ CE 93 [.inr a] ((n, kd, ln), iv, rv) (fun v h' => K (pc + 3) ls (v.toList ++ st) h' bc bs)) := by
  show (1 ≤ (.inr a :: st).length ∧ kd a = 12 ∧ st.length ≤ 8 ∧ 0 ≤ bc ∧ 0 ≤ bs ∧ CE 93 [.inr a] ((n, kd, ln), iv, rv) (fun v h' => K (pc + 3) ls (v.toList ++ st) h' (bc - 0) (bs - 0))) = _
  simp only [List.length_cons, Nat.le_add_left, Nat.zero_le, true_and, Nat.sub_zero]
theorem c_94 {i a : Nat} {v1 : AV} : stp CE K Q rt (some (.invokevirtual i, q1, 94, q3, q4)) pc ls (v1 :: .inr a :: st) ((n, kd, ln), iv, rv) bc bs = (kd a = 12 ∧ st.length ≤ 8 ∧ CE 94 [.inr a, v1] ((n, kd, ln), iv, rv) (fun v h' => K (pc + 3) ls (v.toList ++ st) h' bc bs)) := by
  show (2 ≤ (v1 :: .inr a :: st).length ∧ kd a = 12 ∧ st.length ≤ 8 ∧ 0 ≤ bc ∧ 0 ≤ bs ∧ CE 94 [.inr a, v1] ((n, kd, ln), iv, rv) (fun v h' => K (pc + 3) ls (v.toList ++ st) h' (bc - 0) (bs - 0))) = _
  simp only [List.length_cons, Nat.le_add_left, Nat.zero_le, true_and, Nat.sub_zero]
theorem c_95 {i a : Nat} {v1 : AV} : stp CE K Q rt (some (.invokevirtual i, q1, 95, q3, q4)) pc ls (v1 :: .inr a :: st) ((n, kd, ln), iv, rv) bc bs = (kd a = 12 ∧ st.length ≤ 8 ∧ CE 95 [.inr a, v1] ((n, kd, ln), iv, rv) (fun v h' => K (pc + 3) ls (v.toList ++ st) h' bc bs)) := by
  show (2 ≤ (v1 :: .inr a :: st).length ∧ kd a = 12 ∧ st.length ≤ 8 ∧ 0 ≤ bc ∧ 0 ≤ bs ∧ CE 95 [.inr a, v1] ((n, kd, ln), iv, rv) (fun v h' => K (pc + 3) ls (v.toList ++ st) h' (bc - 0) (bs - 0))) = _
  simp only [List.length_cons, Nat.le_add_left, Nat.zero_le, true_and, Nat.sub_zero]
theorem c_96 {i a : Nat} {v1 : AV} : stp CE K Q rt (some (.invokevirtual i, q1, 96, q3, q4)) pc ls (v1 :: .inr a :: st) ((n, kd, ln), iv, rv) bc bs = (kd a = 12 ∧ st.length ≤ 8 ∧ CE 96 [.inr a, v1] ((n, kd, ln), iv, rv) (fun v h' => K (pc + 3) ls (v.toList ++ st) h' bc bs)) := by
  show (2 ≤ (v1 :: .inr a :: st).length ∧ kd a = 12 ∧ st.length ≤ 8 ∧ 0 ≤ bc ∧ 0 ≤ bs ∧ CE 96 [.inr a, v1] ((n, kd, ln), iv, rv) (fun v h' => K (pc + 3) ls (v.toList ++ st) h' (bc - 0) (bs - 0))) = _
  simp only [List.length_cons, Nat.le_add_left, Nat.zero_le, true_and, Nat.sub_zero]
theorem c_97 {i a : Nat} {v1 v2 : AV} : stp CE K Q rt (some (.invokevirtual i, q1, 97, q3, q4)) pc ls (v2 :: v1 :: .inr a :: st) ((n, kd, ln), iv, rv) bc bs = (kd a = 12 ∧ st.length ≤ 8 ∧ CE 97 [.inr a, v1, v2] ((n, kd, ln), iv, rv) (fun v h' => K (pc + 3) ls (v.toList ++ st) h' bc bs)) := by
  show (3 ≤ (v2 :: v1 :: .inr a :: st).length ∧ kd a = 12 ∧ st.length ≤ 8 ∧ 0 ≤ bc ∧ 0 ≤ bs ∧ CE 97 [.inr a, v1, v2] ((n, kd, ln), iv, rv) (fun v h' => K (pc + 3) ls (v.toList ++ st) h' (bc - 0) (bs - 0))) = _
  simp only [List.length_cons, Nat.le_add_left, Nat.zero_le, true_and, Nat.sub_zero]
theorem c_98 {i a : Nat} {v1 : AV} : stp CE K Q rt (some (.invokevirtual i, q1, 98, q3, q4)) pc ls (v1 :: .inr a :: st) ((n, kd, ln), iv, rv) bc bs = (kd a = 12 ∧ st.length ≤ 8 ∧ CE 98 [.inr a, v1] ((n, kd, ln), iv, rv) (fun v h' => K (pc + 3) ls (v.toList ++ st) h' bc bs)) := by
  show (2 ≤ (v1 :: .inr a :: st).length ∧ kd a = 12 ∧ st.length ≤ 8 ∧ 0 ≤ bc ∧ 0 ≤ bs ∧ CE 98 [.inr a, v1] ((n, kd, ln), iv, rv) (fun v h' => K (pc + 3) ls (v.toList ++ st) h' (bc - 0) (bs - 0))) = _
  simp only [List.length_cons, Nat.le_add_left, Nat.zero_le, true_and, Nat.sub_zero]
theorem c_99 {i a : Nat} {v1 : AV} : stp CE K Q rt (some (.invokevirtual i, q1, 99, q3, q4)) pc ls (v1 :: .inr a :: st) ((n, kd, ln), iv, rv) bc bs = (kd a = 12 ∧ st.length ≤ 8 ∧ CE 99 [.inr a, v1] ((n, kd, ln), iv, rv) (fun v h' => K (pc + 3) ls (v.toList ++ st) h' bc bs)) := by
  show (2 ≤ (v1 :: .inr a :: st).length ∧ kd a = 12 ∧ st.length ≤ 8 ∧ 0 ≤ bc ∧ 0 ≤ bs ∧ CE 99 [.inr a, v1] ((n, kd, ln), iv, rv) (fun v h' => K (pc + 3) ls (v.toList ++ st) h' (bc - 0) (bs - 0))) = _
  simp only [List.length_cons, Nat.le_add_left, Nat.zero_le, true_and, Nat.sub_zero]
theorem c_100 {i a : Nat} {v1 v2 : AV} : stp CE K Q rt (some (.invokevirtual i, q1, 100, q3, q4)) pc ls (v2 :: v1 :: .inr a :: st) ((n, kd, ln), iv, rv) bc bs = (kd a = 12 ∧ st.length ≤ 8 ∧ CE 100 [.inr a, v1, v2] ((n, kd, ln), iv, rv) (fun v h' => K (pc + 3) ls (v.toList ++ st) h' bc bs)) := by
  show (3 ≤ (v2 :: v1 :: .inr a :: st).length ∧ kd a = 12 ∧ st.length ≤ 8 ∧ 0 ≤ bc ∧ 0 ≤ bs ∧ CE 100 [.inr a, v1, v2] ((n, kd, ln), iv, rv) (fun v h' => K (pc + 3) ls (v.toList ++ st) h' (bc - 0) (bs - 0))) = _
  simp only [List.length_cons, Nat.le_add_left, Nat.zero_le, true_and, Nat.sub_zero]
theorem c_101 {i a : Nat} {v1 : AV} : stp CE K Q rt (some (.invokevirtual i, q1, 101, q3, q4)) pc ls (v1 :: .inr a :: st) ((n, kd, ln), iv, rv) bc bs = (kd a = 12 ∧ st.length ≤ 8 ∧ CE 101 [.inr a, v1] ((n, kd, ln), iv, rv) (fun v h' => K (pc + 3) ls (v.toList ++ st) h' bc bs)) := by
  show (2 ≤ (v1 :: .inr a :: st).length ∧ kd a = 12 ∧ st.length ≤ 8 ∧ 0 ≤ bc ∧ 0 ≤ bs ∧ CE 101 [.inr a, v1] ((n, kd, ln), iv, rv) (fun v h' => K (pc + 3) ls (v.toList ++ st) h' (bc - 0) (bs - 0))) = _
  simp only [List.length_cons, Nat.le_add_left, Nat.zero_le, true_and, Nat.sub_zero]
theorem c_102 {i a : Nat} {v1 : AV} : stp CE K Q rt (some (.invokevirtual i, q1, 102, q3, q4)) pc ls (v1 :: .inr a :: st) ((n, kd, ln), iv, rv) bc bs = (kd a = 12 ∧ st.length ≤ 8 ∧ CE 102 [.inr a, v1] ((n, kd, ln), iv, rv) (fun v h' => K (pc + 3) ls (v.toList ++ st) h' bc bs)) := by
  show (2 ≤ (v1 :: .inr a :: st).length ∧ kd a = 12 ∧ st.length ≤ 8 ∧ 0 ≤ bc ∧ 0 ≤ bs ∧ CE 102 [.inr a, v1] ((n, kd, ln), iv, rv) (fun v h' => K (pc + 3) ls (v.toList ++ st) h' (bc - 0) (bs - 0))) = _
  simp only [List.length_cons, Nat.le_add_left, Nat.zero_le, true_and, Nat.sub_zero]
theorem c_103 {i a : Nat}  : stp CE K Q rt (some (.invokevirtual i, q1, 103, q3, q4)) pc ls (.inr a :: st) ((n, kd, ln), iv, rv) bc bs = (kd a = 12 ∧ st.length ≤ 8 ∧ CE 103 [.inr a] ((n, kd, ln), iv, rv) (fun v h' => K (pc + 3) ls (v.toList ++ st) h' bc bs)) := by
  show (1 ≤ (.inr a :: st).length ∧ kd a = 12 ∧ st.length ≤ 8 ∧ 0 ≤ bc ∧ 0 ≤ bs ∧ CE 103 [.inr a] ((n, kd, ln), iv, rv) (fun v h' => K (pc + 3) ls (v.toList ++ st) h' (bc - 0) (bs - 0))) = _
  simp only [List.length_cons, Nat.le_add_left, Nat.zero_le, true_and, Nat.sub_zero]
theorem c_104 {i a : Nat} {v1 v2 v3 : AV} : stp CE K Q rt (some (.invokevirtual i, q1, 104, q3, q4)) pc ls (v3 :: v2 :: v1 :: .inr a :: st) ((n, kd, ln), iv, rv) bc bs = (kd a = 12 ∧ st.length ≤ 8 ∧ CE 104 [.inr a, v1, v2, v3] ((n, kd, ln), iv, rv) (fun v h' => K (pc + 3) ls (v.toList ++ st) h' bc bs)) := by
  show (4 ≤ (v3 :: v2 :: v1 :: .inr a :: st).length ∧ kd a = 12 ∧ st.length ≤ 8 ∧ 0 ≤ bc ∧ 0 ≤ bs ∧ CE 104 [.inr a, v1, v2, v3] ((n, kd, ln), iv, rv) (fun v h' => K (pc + 3) ls (v.toList ++ st) h' (bc - 0) (bs - 0))) = _
  simp only [List.length_cons, Nat.le_add_left, Nat.zero_le, true_and, Nat.sub_zero]
theorem c_105 {i a : Nat} {v1 : AV} : stp CE K Q rt (some (.invokevirtual i, q1, 105, q3, q4)) pc ls (v1 :: .inr a :: st) ((n, kd, ln), iv, rv) bc bs = (kd a = 12 ∧ st.length ≤ 8 ∧ CE 105 [.inr a, v1] ((n, kd, ln), iv, rv) (fun v h' => K (pc + 3) ls (v.toList ++ st) h' bc bs)) := by
  show (2 ≤ (v1 :: .inr a :: st).length ∧ kd a = 12 ∧ st.length ≤ 8 ∧ 0 ≤ bc ∧ 0 ≤ bs ∧ CE 105 [.inr a, v1] ((n, kd, ln), iv, rv) (fun v h' => K (pc + 3) ls (v.toList ++ st) h' (bc - 0) (bs - 0))) = _
  simp only [List.length_cons, Nat.le_add_left, Nat.zero_le, true_and, Nat.sub_zero]
theorem c_106 {i a : Nat} {v1 v2 v3 : AV} : stp CE K Q rt (some (.invokevirtual i, q1, 106, q3, q4)) pc ls (v3 :: v2 :: v1 :: .inr a :: st) ((n, kd, ln), iv, rv) bc bs = (kd a = 12 ∧ st.length ≤ 8 ∧ CE 106 [.inr a, v1, v2, v3] ((n, kd, ln), iv, rv) (fun v h' => K (pc + 3) ls (v.toList ++ st) h' bc bs)) := by
  show (4 ≤ (v3 :: v2 :: v1 :: .inr a :: st).length ∧ kd a = 12 ∧ st.length ≤ 8 ∧ 0 ≤ bc ∧ 0 ≤ bs ∧ CE 106 [.inr a, v1, v2, v3] ((n, kd, ln), iv, rv) (fun v h' => K (pc + 3) ls (v.toList ++ st) h' (bc - 0) (bs - 0))) = _
  simp only [List.length_cons, Nat.le_add_left, Nat.zero_le, true_and, Nat.sub_zero]
theorem c_107 {i a : Nat} {v1 : AV} : stp CE K Q rt (some (.invokevirtual i, q1, 107, q3, q4)) pc ls (v1 :: .inr a :: st) ((n, kd, ln), iv, rv) bc bs = (kd a = 12 ∧ st.length ≤ 8 ∧ CE 107 [.inr a, v1] ((n, kd, ln), iv, rv) (fun v h' => K (pc + 3) ls (v.toList ++ st) h' bc bs)) := by
  show (2 ≤ (v1 :: .inr a :: st).length ∧ kd a = 12 ∧ st.length ≤ 8 ∧ 0 ≤ bc ∧ 0 ≤ bs ∧ CE 107 [.inr a, v1] ((n, kd, ln), iv, rv) (fun v h' => K (pc + 3) ls (v.toList ++ st) h' (bc - 0) (bs - 0))) = _
  simp only [List.length_cons, Nat.le_add_left, Nat.zero_le, true_and, Nat.sub_zero]
theorem c_108 {i a : Nat} {v1 : AV} : stp CE K Q rt (some (.invokevirtual i, q1, 108, q3, q4)) pc ls (v1 :: .inr a :: st) ((n, kd, ln), iv, rv) bc bs = (kd a = 12 ∧ st.length ≤ 8 ∧ CE 108 [.inr a, v1] ((n, kd, ln), iv, rv) (fun v h' => K (pc + 3) ls (v.toList ++ st) h' bc bs)) := by
  show (2 ≤ (v1 :: .inr a :: st).length ∧ kd a = 12 ∧ st.length ≤ 8 ∧ 0 ≤ bc ∧ 0 ≤ bs ∧ CE 108 [.inr a, v1] ((n, kd, ln), iv, rv) (fun v h' => K (pc + 3) ls (v.toList ++ st) h' (bc - 0) (bs - 0))) = _
  simp only [List.length_cons, Nat.le_add_left, Nat.zero_le, true_and, Nat.sub_zero]
theorem c_109 {i a : Nat} {v1 v2 : AV} : stp CE K Q rt (some (.invokevirtual i, q1, 109, q3, q4)) pc ls (v2 :: v1 :: .inr a :: st) ((n, kd, ln), iv, rv) bc bs = (kd a = 12 ∧ st.length ≤ 8 ∧ CE 109 [.inr a, v1, v2] ((n, kd, ln), iv, rv) (fun v h' => K (pc + 3) ls (v.toList ++ st) h' bc bs)) := by
  show (3 ≤ (v2 :: v1 :: .inr a :: st).length ∧ kd a = 12 ∧ st.length ≤ 8 ∧ 0 ≤ bc ∧ 0 ≤ bs ∧ CE 109 [.inr a, v1, v2] ((n, kd, ln), iv, rv) (fun v h' => K (pc + 3) ls (v.toList ++ st) h' (bc - 0) (bs - 0))) = _
  simp only [List.length_cons, Nat.le_add_left, Nat.zero_le, true_and, Nat.sub_zero]
theorem c_110 {i a : Nat} {v1 : AV} : stp CE K Q rt (some (.invokevirtual i, q1, 110, q3, q4)) pc ls (v1 :: .inr a :: st) ((n, kd, ln), iv, rv) bc bs = (kd a = 12 ∧ st.length ≤ 8 ∧ CE 110 [.inr a, v1] ((n, kd, ln), iv, rv) (fun v h' => K (pc + 3) ls (v.toList ++ st) h' bc bs)) := by
  show (2 ≤ (v1 :: .inr a :: st).length ∧ kd a = 12 ∧ st.length ≤ 8 ∧ 0 ≤ bc ∧ 0 ≤ bs ∧ CE 110 [.inr a, v1] ((n, kd, ln), iv, rv) (fun v h' => K (pc + 3) ls (v.toList ++ st) h' (bc - 0) (bs - 0))) = _
  simp only [List.length_cons, Nat.le_add_left, Nat.zero_le, true_and, Nat.sub_zero]
theorem c_111 {i a : Nat} {v1 v2 : AV} : stp CE K Q rt (some (.invokevirtual i, q1, 111, q3, q4)) pc ls (v2 :: v1 :: .inr a :: st) ((n, kd, ln), iv, rv) bc bs = (kd a = 12 ∧ st.length ≤ 8 ∧ CE 111 [.inr a, v1, v2] ((n, kd, ln), iv, rv) (fun v h' => K (pc + 3) ls (v.toList ++ st) h' bc bs)) := by
  show (3 ≤ (v2 :: v1 :: .inr a :: st).length ∧ kd a = 12 ∧ st.length ≤ 8 ∧ 0 ≤ bc ∧ 0 ≤ bs ∧ CE 111 [.inr a, v1, v2] ((n, kd, ln), iv, rv) (fun v h' => K (pc + 3) ls (v.toList ++ st) h' (bc - 0) (bs - 0))) = _
  simp only [List.length_cons, Nat.le_add_left, Nat.zero_le, true_and, Nat.sub_zero]
theorem c_112 {i a : Nat} {v1 : AV} : stp CE K Q rt (some (.invokevirtual i, q1, 112, q3, q4)) pc ls (v1 :: .inr a :: st) ((n, kd, ln), iv, rv) bc bs = (kd a = 12 ∧ st.length ≤ 8 ∧ CE 112 [.inr a, v1] ((n, kd, ln), iv, rv) (fun v h' => K (pc + 3) ls (v.toList ++ st) h' bc bs)) := by
  show (2 ≤ (v1 :: .inr a :: st).length ∧ kd a = 12 ∧ st.length ≤ 8 ∧ 0 ≤ bc ∧ 0 ≤ bs ∧ CE 112 [.inr a, v1] ((n, kd, ln), iv, rv) (fun v h' => K (pc + 3) ls (v.toList ++ st) h' (bc - 0) (bs - 0))) = _
  simp only [List.length_cons, Nat.le_add_left, Nat.zero_le, true_and, Nat.sub_zero]
theorem c_113 {i a : Nat} {v1 v2 : AV} : stp CE K Q rt (some (.invokevirtual i, q1, 113, q3, q4)) pc ls (v2 :: v1 :: .inr a :: st) ((n, kd, ln), iv, rv) bc bs = (kd a = 12 ∧ st.length ≤ 8 ∧ CE 113 [.inr a, v1, v2] ((n, kd, ln), iv, rv) (fun v h' => K (pc + 3) ls (v.toList ++ st) h' bc bs)) := by
  show (3 ≤ (v2 :: v1 :: .inr a :: st).length ∧ kd a = 12 ∧ st.length ≤ 8 ∧ 0 ≤ bc ∧ 0 ≤ bs ∧ CE 113 [.inr a, v1, v2] ((n, kd, ln), iv, rv) (fun v h' => K (pc + 3) ls (v.toList ++ st) h' (bc - 0) (bs - 0))) = _
  simp only [List.length_cons, Nat.le_add_left, Nat.zero_le, true_and, Nat.sub_zero]
theorem c_114 {i a : Nat} {v1 v2 : AV} : stp CE K Q rt (some (.invokevirtual i, q1, 114, q3, q4)) pc ls (v2 :: v1 :: .inr a :: st) ((n, kd, ln), iv, rv) bc bs = (kd a = 12 ∧ st.length ≤ 8 ∧ CE 114 [.inr a, v1, v2] ((n, kd, ln), iv, rv) (fun v h' => K (pc + 3) ls (v.toList ++ st) h' bc bs)) := by
  show (3 ≤ (v2 :: v1 :: .inr a :: st).length ∧ kd a = 12 ∧ st.length ≤ 8 ∧ 0 ≤ bc ∧ 0 ≤ bs ∧ CE 114 [.inr a, v1, v2] ((n, kd, ln), iv, rv) (fun v h' => K (pc + 3) ls (v.toList ++ st) h' (bc - 0) (bs - 0))) = _
  simp only [List.length_cons, Nat.le_add_left, Nat.zero_le, true_and, Nat.sub_zero]
theorem c_115 {i a : Nat} {v1 v2 : AV} : stp CE K Q rt (some (.invokevirtual i, q1, 115, q3, q4)) pc ls (v2 :: v1 :: .inr a :: st) ((n, kd, ln), iv, rv) bc bs = (kd a = 12 ∧ st.length ≤ 8 ∧ CE 115 [.inr a, v1, v2] ((n, kd, ln), iv, rv) (fun v h' => K (pc + 3) ls (v.toList ++ st) h' bc bs)) := by
  show (3 ≤ (v2 :: v1 :: .inr a :: st).length ∧ kd a = 12 ∧ st.length ≤ 8 ∧ 0 ≤ bc ∧ 0 ≤ bs ∧ CE 115 [.inr a, v1, v2] ((n, kd, ln), iv, rv) (fun v h' => K (pc + 3) ls (v.toList ++ st) h' (bc - 0) (bs - 0))) = _
  simp only [List.length_cons, Nat.le_add_left, Nat.zero_le, true_and, Nat.sub_zero]
theorem c_116 {i a : Nat} {v1 v2 : AV} : stp CE K Q rt (some (.invokevirtual i, q1, 116, q3, q4)) pc ls (v2 :: v1 :: .inr a :: st) ((n, kd, ln), iv, rv) bc bs = (kd a = 12 ∧ st.length ≤ 8 ∧ CE 116 [.inr a, v1, v2] ((n, kd, ln), iv, rv) (fun v h' => K (pc + 3) ls (v.toList ++ st) h' bc bs)) := by
  show (3 ≤ (v2 :: v1 :: .inr a :: st).length ∧ kd a = 12 ∧ st.length ≤ 8 ∧ 0 ≤ bc ∧ 0 ≤ bs ∧ CE 116 [.inr a, v1, v2] ((n, kd, ln), iv, rv) (fun v h' => K (pc + 3) ls (v.toList ++ st) h' (bc - 0) (bs - 0))) = _
  simp only [List.length_cons, Nat.le_add_left, Nat.zero_le, true_and, Nat.sub_zero]
theorem c_117 {i a : Nat} {v1 : AV} : stp CE K Q rt (some (.invokevirtual i, q1, 117, q3, q4)) pc ls (v1 :: .inr a :: st) ((n, kd, ln), iv, rv) bc bs = (kd a = 12 ∧ st.length ≤ 8 ∧ CE 117 [.inr a, v1] ((n, kd, ln), iv, rv) (fun v h' => K (pc + 3) ls (v.toList ++ st) h' bc bs)) := by
  show (2 ≤ (v1 :: .inr a :: st).length ∧ kd a = 12 ∧ st.length ≤ 8 ∧ 0 ≤ bc ∧ 0 ≤ bs ∧ CE 117 [.inr a, v1] ((n, kd, ln), iv, rv) (fun v h' => K (pc + 3) ls (v.toList ++ st) h' (bc - 0) (bs - 0))) = _
  simp only [List.length_cons, Nat.le_add_left, Nat.zero_le, true_and, Nat.sub_zero]
theorem c_118 {i a : Nat} {v1 : AV} : stp CE K Q rt (some (.invokevirtual i, q1, 118, q3, q4)) pc ls (v1 :: .inr a :: st) ((n, kd, ln), iv, rv) bc bs = (kd a = 12 ∧ st.length ≤ 8 ∧ CE 118 [.inr a, v1] ((n, kd, ln), iv, rv) (fun v h' => K (pc + 3) ls (v.toList ++ st) h' bc bs)) := by
  show (2 ≤ (v1 :: .inr a :: st).length ∧ kd a = 12 ∧ st.length ≤ 8 ∧ 0 ≤ bc ∧ 0 ≤ bs ∧ CE 118 [.inr a, v1] ((n, kd, ln), iv, rv) (fun v h' => K (pc + 3) ls (v.toList ++ st) h' (bc - 0) (bs - 0))) = _
  simp only [List.length_cons, Nat.le_add_left, Nat.zero_le, true_and, Nat.sub_zero]
theorem s_areturn {a : Nat} : stp CE K Q rt (some (.areturn, q1, q2, q3, q4)) pc ls ([.inr a]) ((n, kd, ln), iv, rv) bc bs = (Q (some (.inr a)) ((n, kd, ln), iv, rv)) := by
  show (([] : List AV) = [] ∧ _) = _
  simp only [true_and]
theorem s_return  : stp CE K Q rt (some (.return_, q1, q2, q3, q4)) pc ls [] ((n, kd, ln), iv, rv) bc bs = (Q none ((n, kd, ln), iv, rv)) := by
  show (([] : List AV) = [] ∧ _) = _
  simp only [true_and]
theorem r_1 {x : Int32} : stp CE K Q (mR 1) (some (.ireturn, q1, q2, q3, q4)) pc ls ([.inl x]) ((n, kd, ln), iv, rv) bc bs = (Q (some (.inl x)) ((n, kd, ln), iv, rv)) := by
  show (([] : List AV) = [] ∧ (some FieldType.int = some .int ∨ _) ∧ _) = _
  simp only [true_and, true_or]
theorem r_2 {x : Int32} : stp CE K Q (mR 2) (some (.ireturn, q1, q2, q3, q4)) pc ls ([.inl x]) ((n, kd, ln), iv, rv) bc bs = (Q (some (.inl x)) ((n, kd, ln), iv, rv)) := by
  show (([] : List AV) = [] ∧ (some FieldType.int = some .int ∨ _) ∧ _) = _
  simp only [true_and, true_or]
theorem r_3 {x : Int32} : stp CE K Q (mR 3) (some (.ireturn, q1, q2, q3, q4)) pc ls ([.inl x]) ((n, kd, ln), iv, rv) bc bs = (Q (some (.inl x)) ((n, kd, ln), iv, rv)) := by
  show (([] : List AV) = [] ∧ (some FieldType.int = some .int ∨ _) ∧ _) = _
  simp only [true_and, true_or]
theorem r_7 {x : Int32} : stp CE K Q (mR 7) (some (.ireturn, q1, q2, q3, q4)) pc ls ([.inl x]) ((n, kd, ln), iv, rv) bc bs = (Q (some (.inl x)) ((n, kd, ln), iv, rv)) := by
  show (([] : List AV) = [] ∧ (some FieldType.int = some .int ∨ _) ∧ _) = _
  simp only [true_and, true_or]
theorem r_14 {x : Int32} : stp CE K Q (mR 14) (some (.ireturn, q1, q2, q3, q4)) pc ls ([.inl x]) ((n, kd, ln), iv, rv) bc bs = ((x = 0 ∨ x = 1) ∧ Q (some (.inl x)) ((n, kd, ln), iv, rv)) := by
  show (([] : List AV) = [] ∧ (some FieldType.boolean = some .int ∨ some FieldType.boolean = some .boolean ∧ _) ∧ _) = _
  simp only [true_and, show (some FieldType.boolean = some FieldType.int) = False from by simp, false_or]
theorem r_16 {x : Int32} : stp CE K Q (mR 16) (some (.ireturn, q1, q2, q3, q4)) pc ls ([.inl x]) ((n, kd, ln), iv, rv) bc bs = ((x = 0 ∨ x = 1) ∧ Q (some (.inl x)) ((n, kd, ln), iv, rv)) := by
  show (([] : List AV) = [] ∧ (some FieldType.boolean = some .int ∨ some FieldType.boolean = some .boolean ∧ _) ∧ _) = _
  simp only [true_and, show (some FieldType.boolean = some FieldType.int) = False from by simp, false_or]
theorem r_17 {x : Int32} : stp CE K Q (mR 17) (some (.ireturn, q1, q2, q3, q4)) pc ls ([.inl x]) ((n, kd, ln), iv, rv) bc bs = (Q (some (.inl x)) ((n, kd, ln), iv, rv)) := by
  show (([] : List AV) = [] ∧ (some FieldType.int = some .int ∨ _) ∧ _) = _
  simp only [true_and, true_or]
theorem r_19 {x : Int32} : stp CE K Q (mR 19) (some (.ireturn, q1, q2, q3, q4)) pc ls ([.inl x]) ((n, kd, ln), iv, rv) bc bs = (Q (some (.inl x)) ((n, kd, ln), iv, rv)) := by
  show (([] : List AV) = [] ∧ (some FieldType.int = some .int ∨ _) ∧ _) = _
  simp only [true_and, true_or]
theorem r_20 {x : Int32} : stp CE K Q (mR 20) (some (.ireturn, q1, q2, q3, q4)) pc ls ([.inl x]) ((n, kd, ln), iv, rv) bc bs = (Q (some (.inl x)) ((n, kd, ln), iv, rv)) := by
  show (([] : List AV) = [] ∧ (some FieldType.int = some .int ∨ _) ∧ _) = _
  simp only [true_and, true_or]
theorem r_25 {x : Int32} : stp CE K Q (mR 25) (some (.ireturn, q1, q2, q3, q4)) pc ls ([.inl x]) ((n, kd, ln), iv, rv) bc bs = ((x = 0 ∨ x = 1) ∧ Q (some (.inl x)) ((n, kd, ln), iv, rv)) := by
  show (([] : List AV) = [] ∧ (some FieldType.boolean = some .int ∨ some FieldType.boolean = some .boolean ∧ _) ∧ _) = _
  simp only [true_and, show (some FieldType.boolean = some FieldType.int) = False from by simp, false_or]
theorem r_26 {x : Int32} : stp CE K Q (mR 26) (some (.ireturn, q1, q2, q3, q4)) pc ls ([.inl x]) ((n, kd, ln), iv, rv) bc bs = ((x = 0 ∨ x = 1) ∧ Q (some (.inl x)) ((n, kd, ln), iv, rv)) := by
  show (([] : List AV) = [] ∧ (some FieldType.boolean = some .int ∨ some FieldType.boolean = some .boolean ∧ _) ∧ _) = _
  simp only [true_and, show (some FieldType.boolean = some FieldType.int) = False from by simp, false_or]
theorem r_29 {x : Int32} : stp CE K Q (mR 29) (some (.ireturn, q1, q2, q3, q4)) pc ls ([.inl x]) ((n, kd, ln), iv, rv) bc bs = (Q (some (.inl x)) ((n, kd, ln), iv, rv)) := by
  show (([] : List AV) = [] ∧ (some FieldType.int = some .int ∨ _) ∧ _) = _
  simp only [true_and, true_or]
theorem r_34 {x : Int32} : stp CE K Q (mR 34) (some (.ireturn, q1, q2, q3, q4)) pc ls ([.inl x]) ((n, kd, ln), iv, rv) bc bs = (Q (some (.inl x)) ((n, kd, ln), iv, rv)) := by
  show (([] : List AV) = [] ∧ (some FieldType.int = some .int ∨ _) ∧ _) = _
  simp only [true_and, true_or]
theorem r_35 {x : Int32} : stp CE K Q (mR 35) (some (.ireturn, q1, q2, q3, q4)) pc ls ([.inl x]) ((n, kd, ln), iv, rv) bc bs = (Q (some (.inl x)) ((n, kd, ln), iv, rv)) := by
  show (([] : List AV) = [] ∧ (some FieldType.int = some .int ∨ _) ∧ _) = _
  simp only [true_and, true_or]
theorem r_36 {x : Int32} : stp CE K Q (mR 36) (some (.ireturn, q1, q2, q3, q4)) pc ls ([.inl x]) ((n, kd, ln), iv, rv) bc bs = (Q (some (.inl x)) ((n, kd, ln), iv, rv)) := by
  show (([] : List AV) = [] ∧ (some FieldType.int = some .int ∨ _) ∧ _) = _
  simp only [true_and, true_or]
theorem r_37 {x : Int32} : stp CE K Q (mR 37) (some (.ireturn, q1, q2, q3, q4)) pc ls ([.inl x]) ((n, kd, ln), iv, rv) bc bs = ((x = 0 ∨ x = 1) ∧ Q (some (.inl x)) ((n, kd, ln), iv, rv)) := by
  show (([] : List AV) = [] ∧ (some FieldType.boolean = some .int ∨ some FieldType.boolean = some .boolean ∧ _) ∧ _) = _
  simp only [true_and, show (some FieldType.boolean = some FieldType.int) = False from by simp, false_or]
theorem r_38 {x : Int32} : stp CE K Q (mR 38) (some (.ireturn, q1, q2, q3, q4)) pc ls ([.inl x]) ((n, kd, ln), iv, rv) bc bs = ((x = 0 ∨ x = 1) ∧ Q (some (.inl x)) ((n, kd, ln), iv, rv)) := by
  show (([] : List AV) = [] ∧ (some FieldType.boolean = some .int ∨ some FieldType.boolean = some .boolean ∧ _) ∧ _) = _
  simp only [true_and, show (some FieldType.boolean = some FieldType.int) = False from by simp, false_or]
theorem r_39 {x : Int32} : stp CE K Q (mR 39) (some (.ireturn, q1, q2, q3, q4)) pc ls ([.inl x]) ((n, kd, ln), iv, rv) bc bs = ((x = 0 ∨ x = 1) ∧ Q (some (.inl x)) ((n, kd, ln), iv, rv)) := by
  show (([] : List AV) = [] ∧ (some FieldType.boolean = some .int ∨ some FieldType.boolean = some .boolean ∧ _) ∧ _) = _
  simp only [true_and, show (some FieldType.boolean = some FieldType.int) = False from by simp, false_or]
theorem r_40 {x : Int32} : stp CE K Q (mR 40) (some (.ireturn, q1, q2, q3, q4)) pc ls ([.inl x]) ((n, kd, ln), iv, rv) bc bs = ((x = 0 ∨ x = 1) ∧ Q (some (.inl x)) ((n, kd, ln), iv, rv)) := by
  show (([] : List AV) = [] ∧ (some FieldType.boolean = some .int ∨ some FieldType.boolean = some .boolean ∧ _) ∧ _) = _
  simp only [true_and, show (some FieldType.boolean = some FieldType.int) = False from by simp, false_or]
theorem r_41 {x : Int32} : stp CE K Q (mR 41) (some (.ireturn, q1, q2, q3, q4)) pc ls ([.inl x]) ((n, kd, ln), iv, rv) bc bs = ((x = 0 ∨ x = 1) ∧ Q (some (.inl x)) ((n, kd, ln), iv, rv)) := by
  show (([] : List AV) = [] ∧ (some FieldType.boolean = some .int ∨ some FieldType.boolean = some .boolean ∧ _) ∧ _) = _
  simp only [true_and, show (some FieldType.boolean = some FieldType.int) = False from by simp, false_or]
theorem r_42 {x : Int32} : stp CE K Q (mR 42) (some (.ireturn, q1, q2, q3, q4)) pc ls ([.inl x]) ((n, kd, ln), iv, rv) bc bs = (Q (some (.inl x)) ((n, kd, ln), iv, rv)) := by
  show (([] : List AV) = [] ∧ (some FieldType.int = some .int ∨ _) ∧ _) = _
  simp only [true_and, true_or]
theorem r_43 {x : Int32} : stp CE K Q (mR 43) (some (.ireturn, q1, q2, q3, q4)) pc ls ([.inl x]) ((n, kd, ln), iv, rv) bc bs = (Q (some (.inl x)) ((n, kd, ln), iv, rv)) := by
  show (([] : List AV) = [] ∧ (some FieldType.int = some .int ∨ _) ∧ _) = _
  simp only [true_and, true_or]
theorem r_44 {x : Int32} : stp CE K Q (mR 44) (some (.ireturn, q1, q2, q3, q4)) pc ls ([.inl x]) ((n, kd, ln), iv, rv) bc bs = (Q (some (.inl x)) ((n, kd, ln), iv, rv)) := by
  show (([] : List AV) = [] ∧ (some FieldType.int = some .int ∨ _) ∧ _) = _
  simp only [true_and, true_or]
theorem r_45 {x : Int32} : stp CE K Q (mR 45) (some (.ireturn, q1, q2, q3, q4)) pc ls ([.inl x]) ((n, kd, ln), iv, rv) bc bs = ((x = 0 ∨ x = 1) ∧ Q (some (.inl x)) ((n, kd, ln), iv, rv)) := by
  show (([] : List AV) = [] ∧ (some FieldType.boolean = some .int ∨ some FieldType.boolean = some .boolean ∧ _) ∧ _) = _
  simp only [true_and, show (some FieldType.boolean = some FieldType.int) = False from by simp, false_or]
theorem r_46 {x : Int32} : stp CE K Q (mR 46) (some (.ireturn, q1, q2, q3, q4)) pc ls ([.inl x]) ((n, kd, ln), iv, rv) bc bs = (Q (some (.inl x)) ((n, kd, ln), iv, rv)) := by
  show (([] : List AV) = [] ∧ (some FieldType.int = some .int ∨ _) ∧ _) = _
  simp only [true_and, true_or]
theorem r_47 {x : Int32} : stp CE K Q (mR 47) (some (.ireturn, q1, q2, q3, q4)) pc ls ([.inl x]) ((n, kd, ln), iv, rv) bc bs = (Q (some (.inl x)) ((n, kd, ln), iv, rv)) := by
  show (([] : List AV) = [] ∧ (some FieldType.int = some .int ∨ _) ∧ _) = _
  simp only [true_and, true_or]
theorem r_48 {x : Int32} : stp CE K Q (mR 48) (some (.ireturn, q1, q2, q3, q4)) pc ls ([.inl x]) ((n, kd, ln), iv, rv) bc bs = (Q (some (.inl x)) ((n, kd, ln), iv, rv)) := by
  show (([] : List AV) = [] ∧ (some FieldType.int = some .int ∨ _) ∧ _) = _
  simp only [true_and, true_or]
theorem r_49 {x : Int32} : stp CE K Q (mR 49) (some (.ireturn, q1, q2, q3, q4)) pc ls ([.inl x]) ((n, kd, ln), iv, rv) bc bs = (Q (some (.inl x)) ((n, kd, ln), iv, rv)) := by
  show (([] : List AV) = [] ∧ (some FieldType.int = some .int ∨ _) ∧ _) = _
  simp only [true_and, true_or]
theorem r_50 {x : Int32} : stp CE K Q (mR 50) (some (.ireturn, q1, q2, q3, q4)) pc ls ([.inl x]) ((n, kd, ln), iv, rv) bc bs = (Q (some (.inl x)) ((n, kd, ln), iv, rv)) := by
  show (([] : List AV) = [] ∧ (some FieldType.int = some .int ∨ _) ∧ _) = _
  simp only [true_and, true_or]
theorem r_51 {x : Int32} : stp CE K Q (mR 51) (some (.ireturn, q1, q2, q3, q4)) pc ls ([.inl x]) ((n, kd, ln), iv, rv) bc bs = (Q (some (.inl x)) ((n, kd, ln), iv, rv)) := by
  show (([] : List AV) = [] ∧ (some FieldType.int = some .int ∨ _) ∧ _) = _
  simp only [true_and, true_or]
theorem r_52 {x : Int32} : stp CE K Q (mR 52) (some (.ireturn, q1, q2, q3, q4)) pc ls ([.inl x]) ((n, kd, ln), iv, rv) bc bs = (Q (some (.inl x)) ((n, kd, ln), iv, rv)) := by
  show (([] : List AV) = [] ∧ (some FieldType.int = some .int ∨ _) ∧ _) = _
  simp only [true_and, true_or]
theorem r_53 {x : Int32} : stp CE K Q (mR 53) (some (.ireturn, q1, q2, q3, q4)) pc ls ([.inl x]) ((n, kd, ln), iv, rv) bc bs = (Q (some (.inl x)) ((n, kd, ln), iv, rv)) := by
  show (([] : List AV) = [] ∧ (some FieldType.int = some .int ∨ _) ∧ _) = _
  simp only [true_and, true_or]
theorem r_54 {x : Int32} : stp CE K Q (mR 54) (some (.ireturn, q1, q2, q3, q4)) pc ls ([.inl x]) ((n, kd, ln), iv, rv) bc bs = (Q (some (.inl x)) ((n, kd, ln), iv, rv)) := by
  show (([] : List AV) = [] ∧ (some FieldType.int = some .int ∨ _) ∧ _) = _
  simp only [true_and, true_or]
theorem r_55 {x : Int32} : stp CE K Q (mR 55) (some (.ireturn, q1, q2, q3, q4)) pc ls ([.inl x]) ((n, kd, ln), iv, rv) bc bs = (Q (some (.inl x)) ((n, kd, ln), iv, rv)) := by
  show (([] : List AV) = [] ∧ (some FieldType.int = some .int ∨ _) ∧ _) = _
  simp only [true_and, true_or]
theorem r_56 {x : Int32} : stp CE K Q (mR 56) (some (.ireturn, q1, q2, q3, q4)) pc ls ([.inl x]) ((n, kd, ln), iv, rv) bc bs = (Q (some (.inl x)) ((n, kd, ln), iv, rv)) := by
  show (([] : List AV) = [] ∧ (some FieldType.int = some .int ∨ _) ∧ _) = _
  simp only [true_and, true_or]
theorem r_57 {x : Int32} : stp CE K Q (mR 57) (some (.ireturn, q1, q2, q3, q4)) pc ls ([.inl x]) ((n, kd, ln), iv, rv) bc bs = (Q (some (.inl x)) ((n, kd, ln), iv, rv)) := by
  show (([] : List AV) = [] ∧ (some FieldType.int = some .int ∨ _) ∧ _) = _
  simp only [true_and, true_or]
theorem r_58 {x : Int32} : stp CE K Q (mR 58) (some (.ireturn, q1, q2, q3, q4)) pc ls ([.inl x]) ((n, kd, ln), iv, rv) bc bs = (Q (some (.inl x)) ((n, kd, ln), iv, rv)) := by
  show (([] : List AV) = [] ∧ (some FieldType.int = some .int ∨ _) ∧ _) = _
  simp only [true_and, true_or]
theorem r_59 {x : Int32} : stp CE K Q (mR 59) (some (.ireturn, q1, q2, q3, q4)) pc ls ([.inl x]) ((n, kd, ln), iv, rv) bc bs = (Q (some (.inl x)) ((n, kd, ln), iv, rv)) := by
  show (([] : List AV) = [] ∧ (some FieldType.int = some .int ∨ _) ∧ _) = _
  simp only [true_and, true_or]
theorem r_60 {x : Int32} : stp CE K Q (mR 60) (some (.ireturn, q1, q2, q3, q4)) pc ls ([.inl x]) ((n, kd, ln), iv, rv) bc bs = (Q (some (.inl x)) ((n, kd, ln), iv, rv)) := by
  show (([] : List AV) = [] ∧ (some FieldType.int = some .int ∨ _) ∧ _) = _
  simp only [true_and, true_or]
theorem r_61 {x : Int32} : stp CE K Q (mR 61) (some (.ireturn, q1, q2, q3, q4)) pc ls ([.inl x]) ((n, kd, ln), iv, rv) bc bs = ((x = 0 ∨ x = 1) ∧ Q (some (.inl x)) ((n, kd, ln), iv, rv)) := by
  show (([] : List AV) = [] ∧ (some FieldType.boolean = some .int ∨ some FieldType.boolean = some .boolean ∧ _) ∧ _) = _
  simp only [true_and, show (some FieldType.boolean = some FieldType.int) = False from by simp, false_or]
theorem r_62 {x : Int32} : stp CE K Q (mR 62) (some (.ireturn, q1, q2, q3, q4)) pc ls ([.inl x]) ((n, kd, ln), iv, rv) bc bs = ((x = 0 ∨ x = 1) ∧ Q (some (.inl x)) ((n, kd, ln), iv, rv)) := by
  show (([] : List AV) = [] ∧ (some FieldType.boolean = some .int ∨ some FieldType.boolean = some .boolean ∧ _) ∧ _) = _
  simp only [true_and, show (some FieldType.boolean = some FieldType.int) = False from by simp, false_or]
theorem r_63 {x : Int32} : stp CE K Q (mR 63) (some (.ireturn, q1, q2, q3, q4)) pc ls ([.inl x]) ((n, kd, ln), iv, rv) bc bs = ((x = 0 ∨ x = 1) ∧ Q (some (.inl x)) ((n, kd, ln), iv, rv)) := by
  show (([] : List AV) = [] ∧ (some FieldType.boolean = some .int ∨ some FieldType.boolean = some .boolean ∧ _) ∧ _) = _
  simp only [true_and, show (some FieldType.boolean = some FieldType.int) = False from by simp, false_or]
theorem r_68 {x : Int32} : stp CE K Q (mR 68) (some (.ireturn, q1, q2, q3, q4)) pc ls ([.inl x]) ((n, kd, ln), iv, rv) bc bs = (Q (some (.inl x)) ((n, kd, ln), iv, rv)) := by
  show (([] : List AV) = [] ∧ (some FieldType.int = some .int ∨ _) ∧ _) = _
  simp only [true_and, true_or]
theorem r_69 {x : Int32} : stp CE K Q (mR 69) (some (.ireturn, q1, q2, q3, q4)) pc ls ([.inl x]) ((n, kd, ln), iv, rv) bc bs = (Q (some (.inl x)) ((n, kd, ln), iv, rv)) := by
  show (([] : List AV) = [] ∧ (some FieldType.int = some .int ∨ _) ∧ _) = _
  simp only [true_and, true_or]
theorem r_70 {x : Int32} : stp CE K Q (mR 70) (some (.ireturn, q1, q2, q3, q4)) pc ls ([.inl x]) ((n, kd, ln), iv, rv) bc bs = ((x = 0 ∨ x = 1) ∧ Q (some (.inl x)) ((n, kd, ln), iv, rv)) := by
  show (([] : List AV) = [] ∧ (some FieldType.boolean = some .int ∨ some FieldType.boolean = some .boolean ∧ _) ∧ _) = _
  simp only [true_and, show (some FieldType.boolean = some FieldType.int) = False from by simp, false_or]
theorem r_71 {x : Int32} : stp CE K Q (mR 71) (some (.ireturn, q1, q2, q3, q4)) pc ls ([.inl x]) ((n, kd, ln), iv, rv) bc bs = (Q (some (.inl x)) ((n, kd, ln), iv, rv)) := by
  show (([] : List AV) = [] ∧ (some FieldType.int = some .int ∨ _) ∧ _) = _
  simp only [true_and, true_or]
theorem r_73 {x : Int32} : stp CE K Q (mR 73) (some (.ireturn, q1, q2, q3, q4)) pc ls ([.inl x]) ((n, kd, ln), iv, rv) bc bs = (Q (some (.inl x)) ((n, kd, ln), iv, rv)) := by
  show (([] : List AV) = [] ∧ (some FieldType.int = some .int ∨ _) ∧ _) = _
  simp only [true_and, true_or]
theorem r_76 {x : Int32} : stp CE K Q (mR 76) (some (.ireturn, q1, q2, q3, q4)) pc ls ([.inl x]) ((n, kd, ln), iv, rv) bc bs = (Q (some (.inl x)) ((n, kd, ln), iv, rv)) := by
  show (([] : List AV) = [] ∧ (some FieldType.int = some .int ∨ _) ∧ _) = _
  simp only [true_and, true_or]
theorem r_77 {x : Int32} : stp CE K Q (mR 77) (some (.ireturn, q1, q2, q3, q4)) pc ls ([.inl x]) ((n, kd, ln), iv, rv) bc bs = ((x = 0 ∨ x = 1) ∧ Q (some (.inl x)) ((n, kd, ln), iv, rv)) := by
  show (([] : List AV) = [] ∧ (some FieldType.boolean = some .int ∨ some FieldType.boolean = some .boolean ∧ _) ∧ _) = _
  simp only [true_and, show (some FieldType.boolean = some FieldType.int) = False from by simp, false_or]
theorem r_79 {x : Int32} : stp CE K Q (mR 79) (some (.ireturn, q1, q2, q3, q4)) pc ls ([.inl x]) ((n, kd, ln), iv, rv) bc bs = ((x = 0 ∨ x = 1) ∧ Q (some (.inl x)) ((n, kd, ln), iv, rv)) := by
  show (([] : List AV) = [] ∧ (some FieldType.boolean = some .int ∨ some FieldType.boolean = some .boolean ∧ _) ∧ _) = _
  simp only [true_and, show (some FieldType.boolean = some FieldType.int) = False from by simp, false_or]
theorem r_80 {x : Int32} : stp CE K Q (mR 80) (some (.ireturn, q1, q2, q3, q4)) pc ls ([.inl x]) ((n, kd, ln), iv, rv) bc bs = ((x = 0 ∨ x = 1) ∧ Q (some (.inl x)) ((n, kd, ln), iv, rv)) := by
  show (([] : List AV) = [] ∧ (some FieldType.boolean = some .int ∨ some FieldType.boolean = some .boolean ∧ _) ∧ _) = _
  simp only [true_and, show (some FieldType.boolean = some FieldType.int) = False from by simp, false_or]
theorem r_81 {x : Int32} : stp CE K Q (mR 81) (some (.ireturn, q1, q2, q3, q4)) pc ls ([.inl x]) ((n, kd, ln), iv, rv) bc bs = ((x = 0 ∨ x = 1) ∧ Q (some (.inl x)) ((n, kd, ln), iv, rv)) := by
  show (([] : List AV) = [] ∧ (some FieldType.boolean = some .int ∨ some FieldType.boolean = some .boolean ∧ _) ∧ _) = _
  simp only [true_and, show (some FieldType.boolean = some FieldType.int) = False from by simp, false_or]
theorem r_82 {x : Int32} : stp CE K Q (mR 82) (some (.ireturn, q1, q2, q3, q4)) pc ls ([.inl x]) ((n, kd, ln), iv, rv) bc bs = ((x = 0 ∨ x = 1) ∧ Q (some (.inl x)) ((n, kd, ln), iv, rv)) := by
  show (([] : List AV) = [] ∧ (some FieldType.boolean = some .int ∨ some FieldType.boolean = some .boolean ∧ _) ∧ _) = _
  simp only [true_and, show (some FieldType.boolean = some FieldType.int) = False from by simp, false_or]
theorem r_83 {x : Int32} : stp CE K Q (mR 83) (some (.ireturn, q1, q2, q3, q4)) pc ls ([.inl x]) ((n, kd, ln), iv, rv) bc bs = (Q (some (.inl x)) ((n, kd, ln), iv, rv)) := by
  show (([] : List AV) = [] ∧ (some FieldType.int = some .int ∨ _) ∧ _) = _
  simp only [true_and, true_or]
theorem r_84 {x : Int32} : stp CE K Q (mR 84) (some (.ireturn, q1, q2, q3, q4)) pc ls ([.inl x]) ((n, kd, ln), iv, rv) bc bs = (Q (some (.inl x)) ((n, kd, ln), iv, rv)) := by
  show (([] : List AV) = [] ∧ (some FieldType.int = some .int ∨ _) ∧ _) = _
  simp only [true_and, true_or]
theorem r_85 {x : Int32} : stp CE K Q (mR 85) (some (.ireturn, q1, q2, q3, q4)) pc ls ([.inl x]) ((n, kd, ln), iv, rv) bc bs = (Q (some (.inl x)) ((n, kd, ln), iv, rv)) := by
  show (([] : List AV) = [] ∧ (some FieldType.int = some .int ∨ _) ∧ _) = _
  simp only [true_and, true_or]
theorem r_86 {x : Int32} : stp CE K Q (mR 86) (some (.ireturn, q1, q2, q3, q4)) pc ls ([.inl x]) ((n, kd, ln), iv, rv) bc bs = ((x = 0 ∨ x = 1) ∧ Q (some (.inl x)) ((n, kd, ln), iv, rv)) := by
  show (([] : List AV) = [] ∧ (some FieldType.boolean = some .int ∨ some FieldType.boolean = some .boolean ∧ _) ∧ _) = _
  simp only [true_and, show (some FieldType.boolean = some FieldType.int) = False from by simp, false_or]
theorem r_88 {x : Int32} : stp CE K Q (mR 88) (some (.ireturn, q1, q2, q3, q4)) pc ls ([.inl x]) ((n, kd, ln), iv, rv) bc bs = ((x = 0 ∨ x = 1) ∧ Q (some (.inl x)) ((n, kd, ln), iv, rv)) := by
  show (([] : List AV) = [] ∧ (some FieldType.boolean = some .int ∨ some FieldType.boolean = some .boolean ∧ _) ∧ _) = _
  simp only [true_and, show (some FieldType.boolean = some FieldType.int) = False from by simp, false_or]
theorem r_89 {x : Int32} : stp CE K Q (mR 89) (some (.ireturn, q1, q2, q3, q4)) pc ls ([.inl x]) ((n, kd, ln), iv, rv) bc bs = ((x = 0 ∨ x = 1) ∧ Q (some (.inl x)) ((n, kd, ln), iv, rv)) := by
  show (([] : List AV) = [] ∧ (some FieldType.boolean = some .int ∨ some FieldType.boolean = some .boolean ∧ _) ∧ _) = _
  simp only [true_and, show (some FieldType.boolean = some FieldType.int) = False from by simp, false_or]
theorem r_90 {x : Int32} : stp CE K Q (mR 90) (some (.ireturn, q1, q2, q3, q4)) pc ls ([.inl x]) ((n, kd, ln), iv, rv) bc bs = ((x = 0 ∨ x = 1) ∧ Q (some (.inl x)) ((n, kd, ln), iv, rv)) := by
  show (([] : List AV) = [] ∧ (some FieldType.boolean = some .int ∨ some FieldType.boolean = some .boolean ∧ _) ∧ _) = _
  simp only [true_and, show (some FieldType.boolean = some FieldType.int) = False from by simp, false_or]
theorem r_91 {x : Int32} : stp CE K Q (mR 91) (some (.ireturn, q1, q2, q3, q4)) pc ls ([.inl x]) ((n, kd, ln), iv, rv) bc bs = ((x = 0 ∨ x = 1) ∧ Q (some (.inl x)) ((n, kd, ln), iv, rv)) := by
  show (([] : List AV) = [] ∧ (some FieldType.boolean = some .int ∨ some FieldType.boolean = some .boolean ∧ _) ∧ _) = _
  simp only [true_and, show (some FieldType.boolean = some FieldType.int) = False from by simp, false_or]
theorem r_92 {x : Int32} : stp CE K Q (mR 92) (some (.ireturn, q1, q2, q3, q4)) pc ls ([.inl x]) ((n, kd, ln), iv, rv) bc bs = (Q (some (.inl x)) ((n, kd, ln), iv, rv)) := by
  show (([] : List AV) = [] ∧ (some FieldType.int = some .int ∨ _) ∧ _) = _
  simp only [true_and, true_or]
theorem r_93 {x : Int32} : stp CE K Q (mR 93) (some (.ireturn, q1, q2, q3, q4)) pc ls ([.inl x]) ((n, kd, ln), iv, rv) bc bs = (Q (some (.inl x)) ((n, kd, ln), iv, rv)) := by
  show (([] : List AV) = [] ∧ (some FieldType.int = some .int ∨ _) ∧ _) = _
  simp only [true_and, true_or]
theorem r_94 {x : Int32} : stp CE K Q (mR 94) (some (.ireturn, q1, q2, q3, q4)) pc ls ([.inl x]) ((n, kd, ln), iv, rv) bc bs = ((x = 0 ∨ x = 1) ∧ Q (some (.inl x)) ((n, kd, ln), iv, rv)) := by
  show (([] : List AV) = [] ∧ (some FieldType.boolean = some .int ∨ some FieldType.boolean = some .boolean ∧ _) ∧ _) = _
  simp only [true_and, show (some FieldType.boolean = some FieldType.int) = False from by simp, false_or]
theorem r_95 {x : Int32} : stp CE K Q (mR 95) (some (.ireturn, q1, q2, q3, q4)) pc ls ([.inl x]) ((n, kd, ln), iv, rv) bc bs = (Q (some (.inl x)) ((n, kd, ln), iv, rv)) := by
  show (([] : List AV) = [] ∧ (some FieldType.int = some .int ∨ _) ∧ _) = _
  simp only [true_and, true_or]
theorem r_96 {x : Int32} : stp CE K Q (mR 96) (some (.ireturn, q1, q2, q3, q4)) pc ls ([.inl x]) ((n, kd, ln), iv, rv) bc bs = (Q (some (.inl x)) ((n, kd, ln), iv, rv)) := by
  show (([] : List AV) = [] ∧ (some FieldType.int = some .int ∨ _) ∧ _) = _
  simp only [true_and, true_or]
theorem r_97 {x : Int32} : stp CE K Q (mR 97) (some (.ireturn, q1, q2, q3, q4)) pc ls ([.inl x]) ((n, kd, ln), iv, rv) bc bs = (Q (some (.inl x)) ((n, kd, ln), iv, rv)) := by
  show (([] : List AV) = [] ∧ (some FieldType.int = some .int ∨ _) ∧ _) = _
  simp only [true_and, true_or]
theorem r_98 {x : Int32} : stp CE K Q (mR 98) (some (.ireturn, q1, q2, q3, q4)) pc ls ([.inl x]) ((n, kd, ln), iv, rv) bc bs = ((x = 0 ∨ x = 1) ∧ Q (some (.inl x)) ((n, kd, ln), iv, rv)) := by
  show (([] : List AV) = [] ∧ (some FieldType.boolean = some .int ∨ some FieldType.boolean = some .boolean ∧ _) ∧ _) = _
  simp only [true_and, show (some FieldType.boolean = some FieldType.int) = False from by simp, false_or]
theorem r_99 {x : Int32} : stp CE K Q (mR 99) (some (.ireturn, q1, q2, q3, q4)) pc ls ([.inl x]) ((n, kd, ln), iv, rv) bc bs = (Q (some (.inl x)) ((n, kd, ln), iv, rv)) := by
  show (([] : List AV) = [] ∧ (some FieldType.int = some .int ∨ _) ∧ _) = _
  simp only [true_and, true_or]
theorem r_100 {x : Int32} : stp CE K Q (mR 100) (some (.ireturn, q1, q2, q3, q4)) pc ls ([.inl x]) ((n, kd, ln), iv, rv) bc bs = (Q (some (.inl x)) ((n, kd, ln), iv, rv)) := by
  show (([] : List AV) = [] ∧ (some FieldType.int = some .int ∨ _) ∧ _) = _
  simp only [true_and, true_or]
theorem r_101 {x : Int32} : stp CE K Q (mR 101) (some (.ireturn, q1, q2, q3, q4)) pc ls ([.inl x]) ((n, kd, ln), iv, rv) bc bs = (Q (some (.inl x)) ((n, kd, ln), iv, rv)) := by
  show (([] : List AV) = [] ∧ (some FieldType.int = some .int ∨ _) ∧ _) = _
  simp only [true_and, true_or]
theorem r_102 {x : Int32} : stp CE K Q (mR 102) (some (.ireturn, q1, q2, q3, q4)) pc ls ([.inl x]) ((n, kd, ln), iv, rv) bc bs = (Q (some (.inl x)) ((n, kd, ln), iv, rv)) := by
  show (([] : List AV) = [] ∧ (some FieldType.int = some .int ∨ _) ∧ _) = _
  simp only [true_and, true_or]
theorem r_104 {x : Int32} : stp CE K Q (mR 104) (some (.ireturn, q1, q2, q3, q4)) pc ls ([.inl x]) ((n, kd, ln), iv, rv) bc bs = (Q (some (.inl x)) ((n, kd, ln), iv, rv)) := by
  show (([] : List AV) = [] ∧ (some FieldType.int = some .int ∨ _) ∧ _) = _
  simp only [true_and, true_or]
theorem r_105 {x : Int32} : stp CE K Q (mR 105) (some (.ireturn, q1, q2, q3, q4)) pc ls ([.inl x]) ((n, kd, ln), iv, rv) bc bs = (Q (some (.inl x)) ((n, kd, ln), iv, rv)) := by
  show (([] : List AV) = [] ∧ (some FieldType.int = some .int ∨ _) ∧ _) = _
  simp only [true_and, true_or]
theorem r_107 {x : Int32} : stp CE K Q (mR 107) (some (.ireturn, q1, q2, q3, q4)) pc ls ([.inl x]) ((n, kd, ln), iv, rv) bc bs = (Q (some (.inl x)) ((n, kd, ln), iv, rv)) := by
  show (([] : List AV) = [] ∧ (some FieldType.int = some .int ∨ _) ∧ _) = _
  simp only [true_and, true_or]
theorem r_108 {x : Int32} : stp CE K Q (mR 108) (some (.ireturn, q1, q2, q3, q4)) pc ls ([.inl x]) ((n, kd, ln), iv, rv) bc bs = (Q (some (.inl x)) ((n, kd, ln), iv, rv)) := by
  show (([] : List AV) = [] ∧ (some FieldType.int = some .int ∨ _) ∧ _) = _
  simp only [true_and, true_or]
theorem r_109 {x : Int32} : stp CE K Q (mR 109) (some (.ireturn, q1, q2, q3, q4)) pc ls ([.inl x]) ((n, kd, ln), iv, rv) bc bs = (Q (some (.inl x)) ((n, kd, ln), iv, rv)) := by
  show (([] : List AV) = [] ∧ (some FieldType.int = some .int ∨ _) ∧ _) = _
  simp only [true_and, true_or]
theorem r_110 {x : Int32} : stp CE K Q (mR 110) (some (.ireturn, q1, q2, q3, q4)) pc ls ([.inl x]) ((n, kd, ln), iv, rv) bc bs = ((x = 0 ∨ x = 1) ∧ Q (some (.inl x)) ((n, kd, ln), iv, rv)) := by
  show (([] : List AV) = [] ∧ (some FieldType.boolean = some .int ∨ some FieldType.boolean = some .boolean ∧ _) ∧ _) = _
  simp only [true_and, show (some FieldType.boolean = some FieldType.int) = False from by simp, false_or]
theorem r_111 {x : Int32} : stp CE K Q (mR 111) (some (.ireturn, q1, q2, q3, q4)) pc ls ([.inl x]) ((n, kd, ln), iv, rv) bc bs = (Q (some (.inl x)) ((n, kd, ln), iv, rv)) := by
  show (([] : List AV) = [] ∧ (some FieldType.int = some .int ∨ _) ∧ _) = _
  simp only [true_and, true_or]
theorem r_112 {x : Int32} : stp CE K Q (mR 112) (some (.ireturn, q1, q2, q3, q4)) pc ls ([.inl x]) ((n, kd, ln), iv, rv) bc bs = (Q (some (.inl x)) ((n, kd, ln), iv, rv)) := by
  show (([] : List AV) = [] ∧ (some FieldType.int = some .int ∨ _) ∧ _) = _
  simp only [true_and, true_or]
theorem r_113 {x : Int32} : stp CE K Q (mR 113) (some (.ireturn, q1, q2, q3, q4)) pc ls ([.inl x]) ((n, kd, ln), iv, rv) bc bs = (Q (some (.inl x)) ((n, kd, ln), iv, rv)) := by
  show (([] : List AV) = [] ∧ (some FieldType.int = some .int ∨ _) ∧ _) = _
  simp only [true_and, true_or]
theorem r_114 {x : Int32} : stp CE K Q (mR 114) (some (.ireturn, q1, q2, q3, q4)) pc ls ([.inl x]) ((n, kd, ln), iv, rv) bc bs = (Q (some (.inl x)) ((n, kd, ln), iv, rv)) := by
  show (([] : List AV) = [] ∧ (some FieldType.int = some .int ∨ _) ∧ _) = _
  simp only [true_and, true_or]
theorem r_115 {x : Int32} : stp CE K Q (mR 115) (some (.ireturn, q1, q2, q3, q4)) pc ls ([.inl x]) ((n, kd, ln), iv, rv) bc bs = (Q (some (.inl x)) ((n, kd, ln), iv, rv)) := by
  show (([] : List AV) = [] ∧ (some FieldType.int = some .int ∨ _) ∧ _) = _
  simp only [true_and, true_or]
theorem r_116 {x : Int32} : stp CE K Q (mR 116) (some (.ireturn, q1, q2, q3, q4)) pc ls ([.inl x]) ((n, kd, ln), iv, rv) bc bs = (Q (some (.inl x)) ((n, kd, ln), iv, rv)) := by
  show (([] : List AV) = [] ∧ (some FieldType.int = some .int ∨ _) ∧ _) = _
  simp only [true_and, true_or]
theorem r_117 {x : Int32} : stp CE K Q (mR 117) (some (.ireturn, q1, q2, q3, q4)) pc ls ([.inl x]) ((n, kd, ln), iv, rv) bc bs = (Q (some (.inl x)) ((n, kd, ln), iv, rv)) := by
  show (([] : List AV) = [] ∧ (some FieldType.int = some .int ∨ _) ∧ _) = _
  simp only [true_and, true_or]
theorem r_118 {x : Int32} : stp CE K Q (mR 118) (some (.ireturn, q1, q2, q3, q4)) pc ls ([.inl x]) ((n, kd, ln), iv, rv) bc bs = (Q (some (.inl x)) ((n, kd, ln), iv, rv)) := by
  show (([] : List AV) = [] ∧ (some FieldType.int = some .int ∨ _) ∧ _) = _
  simp only [true_and, true_or]
theorem r_119 {x : Int32} : stp CE K Q (mR 119) (some (.ireturn, q1, q2, q3, q4)) pc ls ([.inl x]) ((n, kd, ln), iv, rv) bc bs = ((x = 0 ∨ x = 1) ∧ Q (some (.inl x)) ((n, kd, ln), iv, rv)) := by
  show (([] : List AV) = [] ∧ (some FieldType.boolean = some .int ∨ some FieldType.boolean = some .boolean ∧ _) ∧ _) = _
  simp only [true_and, show (some FieldType.boolean = some FieldType.int) = False from by simp, false_or]
end EQS
theorem i_10 : ((1 : Int32) = 0) = False := by decide
theorem i_01 : ((0 : Int32) = 1) = False := by decide
theorem e_lI0 {x : Int32} {r : List LV} {f : Int32 → Prop} : lI (some (.inl x) :: r) 0 f = f x := rfl
theorem e_lR0 {x : Nat} {r : List LV} {f : Nat → Prop} : lR (some (.inr x) :: r) 0 f = f x := rfl
theorem e_st0 {x v : LV} {r : List LV} : (x :: r).set 0 v = v :: r := rfl
theorem e_lI1 {l0 : LV} {x : Int32} {r : List LV} {f : Int32 → Prop} : lI (l0 :: some (.inl x) :: r) 1 f = f x := rfl
theorem e_lR1 {l0 : LV} {x : Nat} {r : List LV} {f : Nat → Prop} : lR (l0 :: some (.inr x) :: r) 1 f = f x := rfl
theorem e_st1 {l0 : LV} {x v : LV} {r : List LV} : (l0 :: x :: r).set 1 v = l0 :: v :: r := rfl
theorem e_lI2 {l0 l1 : LV} {x : Int32} {r : List LV} {f : Int32 → Prop} : lI (l0 :: l1 :: some (.inl x) :: r) 2 f = f x := rfl
theorem e_lR2 {l0 l1 : LV} {x : Nat} {r : List LV} {f : Nat → Prop} : lR (l0 :: l1 :: some (.inr x) :: r) 2 f = f x := rfl
theorem e_st2 {l0 l1 : LV} {x v : LV} {r : List LV} : (l0 :: l1 :: x :: r).set 2 v = l0 :: l1 :: v :: r := rfl
theorem e_lI3 {l0 l1 l2 : LV} {x : Int32} {r : List LV} {f : Int32 → Prop} : lI (l0 :: l1 :: l2 :: some (.inl x) :: r) 3 f = f x := rfl
theorem e_lR3 {l0 l1 l2 : LV} {x : Nat} {r : List LV} {f : Nat → Prop} : lR (l0 :: l1 :: l2 :: some (.inr x) :: r) 3 f = f x := rfl
theorem e_st3 {l0 l1 l2 : LV} {x v : LV} {r : List LV} : (l0 :: l1 :: l2 :: x :: r).set 3 v = l0 :: l1 :: l2 :: v :: r := rfl
theorem e_lI4 {l0 l1 l2 l3 : LV} {x : Int32} {r : List LV} {f : Int32 → Prop} : lI (l0 :: l1 :: l2 :: l3 :: some (.inl x) :: r) 4 f = f x := rfl
theorem e_lR4 {l0 l1 l2 l3 : LV} {x : Nat} {r : List LV} {f : Nat → Prop} : lR (l0 :: l1 :: l2 :: l3 :: some (.inr x) :: r) 4 f = f x := rfl
theorem e_st4 {l0 l1 l2 l3 : LV} {x v : LV} {r : List LV} : (l0 :: l1 :: l2 :: l3 :: x :: r).set 4 v = l0 :: l1 :: l2 :: l3 :: v :: r := rfl
theorem e_lI5 {l0 l1 l2 l3 l4 : LV} {x : Int32} {r : List LV} {f : Int32 → Prop} : lI (l0 :: l1 :: l2 :: l3 :: l4 :: some (.inl x) :: r) 5 f = f x := rfl
theorem e_lR5 {l0 l1 l2 l3 l4 : LV} {x : Nat} {r : List LV} {f : Nat → Prop} : lR (l0 :: l1 :: l2 :: l3 :: l4 :: some (.inr x) :: r) 5 f = f x := rfl
theorem e_st5 {l0 l1 l2 l3 l4 : LV} {x v : LV} {r : List LV} : (l0 :: l1 :: l2 :: l3 :: l4 :: x :: r).set 5 v = l0 :: l1 :: l2 :: l3 :: l4 :: v :: r := rfl
theorem e_lI6 {l0 l1 l2 l3 l4 l5 : LV} {x : Int32} {r : List LV} {f : Int32 → Prop} : lI (l0 :: l1 :: l2 :: l3 :: l4 :: l5 :: some (.inl x) :: r) 6 f = f x := rfl
theorem e_lR6 {l0 l1 l2 l3 l4 l5 : LV} {x : Nat} {r : List LV} {f : Nat → Prop} : lR (l0 :: l1 :: l2 :: l3 :: l4 :: l5 :: some (.inr x) :: r) 6 f = f x := rfl
theorem e_st6 {l0 l1 l2 l3 l4 l5 : LV} {x v : LV} {r : List LV} : (l0 :: l1 :: l2 :: l3 :: l4 :: l5 :: x :: r).set 6 v = l0 :: l1 :: l2 :: l3 :: l4 :: l5 :: v :: r := rfl
theorem e_lI7 {l0 l1 l2 l3 l4 l5 l6 : LV} {x : Int32} {r : List LV} {f : Int32 → Prop} : lI (l0 :: l1 :: l2 :: l3 :: l4 :: l5 :: l6 :: some (.inl x) :: r) 7 f = f x := rfl
theorem e_lR7 {l0 l1 l2 l3 l4 l5 l6 : LV} {x : Nat} {r : List LV} {f : Nat → Prop} : lR (l0 :: l1 :: l2 :: l3 :: l4 :: l5 :: l6 :: some (.inr x) :: r) 7 f = f x := rfl
theorem e_st7 {l0 l1 l2 l3 l4 l5 l6 : LV} {x v : LV} {r : List LV} : (l0 :: l1 :: l2 :: l3 :: l4 :: l5 :: l6 :: x :: r).set 7 v = l0 :: l1 :: l2 :: l3 :: l4 :: l5 :: l6 :: v :: r := rfl
theorem e_lI8 {l0 l1 l2 l3 l4 l5 l6 l7 : LV} {x : Int32} {r : List LV} {f : Int32 → Prop} : lI (l0 :: l1 :: l2 :: l3 :: l4 :: l5 :: l6 :: l7 :: some (.inl x) :: r) 8 f = f x := rfl
theorem e_lR8 {l0 l1 l2 l3 l4 l5 l6 l7 : LV} {x : Nat} {r : List LV} {f : Nat → Prop} : lR (l0 :: l1 :: l2 :: l3 :: l4 :: l5 :: l6 :: l7 :: some (.inr x) :: r) 8 f = f x := rfl
theorem e_st8 {l0 l1 l2 l3 l4 l5 l6 l7 : LV} {x v : LV} {r : List LV} : (l0 :: l1 :: l2 :: l3 :: l4 :: l5 :: l6 :: l7 :: x :: r).set 8 v = l0 :: l1 :: l2 :: l3 :: l4 :: l5 :: l6 :: l7 :: v :: r := rfl
theorem e_swn {x : Int32} {k : Nat → Prop} {d : Prop} : swt x [] k d = d := rfl
theorem e_swc {x v : Int32} {t : Nat} {r : List (Int32 × Nat)} {k : Nat → Prop} {d : Prop} : swt x ((v, t) :: r) k d = if x = v then k t else swt x r k d := rfl
theorem e_sw0 : swL 0 = [(0, 52), (1, 57), (2, 62), (3, 67), (4, 72), (5, 77)] := rfl
theorem e_sw1 : swL 1 = [(0, 52), (1, 57), (2, 62), (3, 67), (4, 72), (5, 77)] := rfl
theorem e_sw2 : swL 2 = [(0, 44), (1, 49), (2, 54), (3, 59)] := rfl
theorem e_sw3 : swL 3 = [(0, 44), (1, 49), (2, 54), (3, 59)] := rfl
theorem e_sw4 : swL 4 = [(0, 56), (1, 61), (2, 66), (3, 71), (4, 76), (5, 82), (6, 88), (7, 94), (8, 99), (9, 107)] := rfl
theorem e_sw5 : swL 5 = [(0, 48), (1, 55), (2, 62), (3, 69), (4, 76), (5, 83)] := rfl
theorem e_sw6 : swL 6 = [(0, 48), (1, 55), (2, 62), (3, 69), (4, 76), (5, 83)] := rfl
theorem e_sw7 : swL 7 = [(0, 40), (1, 47), (2, 54), (3, 61)] := rfl
theorem e_sw8 : swL 8 = [(0, 56), (1, 61), (2, 66), (3, 71), (4, 76), (5, 82), (6, 88), (7, 94), (8, 121), (9, 126)] := rfl
theorem e_sw9 : swL 9 = [(0, 156), (1, 169), (2, 202), (3, 245), (4, 278), (5, 311), (6, 334), (7, 367), (8, 416), (9, 429), (10, 452), (11, 485), (12, 508), (13, 531), (14, 564), (15, 587), (16, 610), (17, 653), (18, 676), (19, 699), (20, 732), (21, 765), (22, 788), (23, 821), (24, 854), (25, 887), (26, 920)] := rfl
theorem en_0 {d : Nat} {v0 : AV} {h : AH} {Q : Rt} : MW (d + 1) 0 [v0] h Q = WPc (MW d) 0 Q 0 [some v0] [] h 1 60 := rfl
theorem en_1 {d : Nat} {v0 v1 v2 : AV} {h : AH} {Q : Rt} : MW (d + 1) 1 [v0, v1, v2] h Q = WPc (MW d) 1 Q 0 [some v0, some v1, some v2, none] [] h 1 3 := rfl
theorem en_2 {d : Nat} {v0 v1 v2 : AV} {h : AH} {Q : Rt} : MW (d + 1) 2 [v0, v1, v2] h Q = WPc (MW d) 2 Q 0 [some v0, some v1, some v2, none, none] [] h 0 0 := rfl
theorem en_3 {d : Nat} {v0 v1 : AV} {h : AH} {Q : Rt} : MW (d + 1) 3 [v0, v1] h Q = WPc (MW d) 3 Q 0 [some v0, some v1, none] [] h 0 0 := rfl
theorem en_4 {d : Nat} {v0 v1 : AV} {h : AH} {Q : Rt} : MW (d + 1) 4 [v0, v1] h Q = WPc (MW d) 4 Q 0 [some v0, some v1] [] h 0 0 := rfl
theorem en_5 {d : Nat} {v0 v1 : AV} {h : AH} {Q : Rt} : MW (d + 1) 5 [v0, v1] h Q = WPc (MW d) 5 Q 0 [some v0, some v1, none] [] h 0 0 := rfl
theorem en_6 {d : Nat} {v0 v1 v2 : AV} {h : AH} {Q : Rt} : MW (d + 1) 6 [v0, v1, v2] h Q = WPc (MW d) 6 Q 0 [some v0, some v1, some v2, none, none, none] [] h 0 0 := rfl
theorem en_7 {d : Nat} {v0 v1 : AV} {h : AH} {Q : Rt} : MW (d + 1) 7 [v0, v1] h Q = WPc (MW d) 7 Q 0 [some v0, some v1, none, none, none, none, none, none] [] h 0 0 := rfl
theorem en_8 {d : Nat} {v0 v1 : AV} {h : AH} {Q : Rt} : MW (d + 1) 8 [v0, v1] h Q = WPc (MW d) 8 Q 0 [some v0, some v1] [] h 0 0 := rfl
theorem en_9 {d : Nat} {v0 v1 v2 v3 : AV} {h : AH} {Q : Rt} : MW (d + 1) 9 [v0, v1, v2, v3] h Q = WPc (MW d) 9 Q 0 [some v0, some v1, some v2, some v3] [] h 0 0 := rfl
theorem en_10 {d : Nat} {v0 v1 v2 v3 v4 : AV} {h : AH} {Q : Rt} : MW (d + 1) 10 [v0, v1, v2, v3, v4] h Q = WPc (MW d) 10 Q 0 [some v0, some v1, some v2, some v3, some v4] [] h 0 0 := rfl
theorem en_11 {d : Nat} {v0 : AV} {h : AH} {Q : Rt} : MW (d + 1) 11 [v0] h Q = WPc (MW d) 11 Q 0 [some v0] [] h 0 0 := rfl
theorem en_12 {d : Nat} {v0 : AV} {h : AH} {Q : Rt} : MW (d + 1) 12 [v0] h Q = WPc (MW d) 12 Q 0 [some v0] [] h 8 43 := rfl
theorem en_13 {d : Nat} {v0 : AV} {h : AH} {Q : Rt} : MW (d + 1) 13 [v0] h Q = WPc (MW d) 13 Q 0 [some v0] [] h 0 0 := rfl
theorem en_14 {d : Nat} {v0 v1 v2 : AV} {h : AH} {Q : Rt} : MW (d + 1) 14 [v0, v1, v2] h Q = WPc (MW d) 14 Q 0 [some v0, some v1, some v2] [] h 0 0 := rfl
theorem en_15 {d : Nat} {v0 v1 v2 : AV} {h : AH} {Q : Rt} : MW (d + 1) 15 [v0, v1, v2] h Q = WPc (MW d) 15 Q 0 [some v0, some v1, some v2] [] h 0 0 := rfl
theorem en_16 {d : Nat} {v0 : AV} {h : AH} {Q : Rt} : MW (d + 1) 16 [v0] h Q = WPc (MW d) 16 Q 0 [some v0, none, none] [] h 0 0 := rfl
theorem en_17 {d : Nat} {v0 v1 : AV} {h : AH} {Q : Rt} : MW (d + 1) 17 [v0, v1] h Q = WPc (MW d) 17 Q 0 [some v0, some v1, none] [] h 0 0 := rfl
theorem en_18 {d : Nat} {v0 v1 : AV} {h : AH} {Q : Rt} : MW (d + 1) 18 [v0, v1] h Q = WPc (MW d) 18 Q 0 [some v0, some v1, none] [] h 0 0 := rfl
theorem en_19 {d : Nat} {v0 v1 : AV} {h : AH} {Q : Rt} : MW (d + 1) 19 [v0, v1] h Q = WPc (MW d) 19 Q 0 [some v0, some v1, none, none] [] h 0 0 := rfl
theorem en_20 {d : Nat} {v0 v1 v2 : AV} {h : AH} {Q : Rt} : MW (d + 1) 20 [v0, v1, v2] h Q = WPc (MW d) 20 Q 0 [some v0, some v1, some v2] [] h 0 0 := rfl
theorem en_21 {d : Nat} {v0 v1 : AV} {h : AH} {Q : Rt} : MW (d + 1) 21 [v0, v1] h Q = WPc (MW d) 21 Q 0 [some v0, some v1] [] h 0 0 := rfl
theorem en_22 {d : Nat} {v0 v1 v2 v3 : AV} {h : AH} {Q : Rt} : MW (d + 1) 22 [v0, v1, v2, v3] h Q = WPc (MW d) 22 Q 0 [some v0, some v1, some v2, some v3, none] [] h 0 0 := rfl
theorem en_23 {d : Nat} {v0 v1 v2 : AV} {h : AH} {Q : Rt} : MW (d + 1) 23 [v0, v1, v2] h Q = WPc (MW d) 23 Q 0 [some v0, some v1, some v2] [] h 0 0 := rfl
theorem en_24 {d : Nat} {v0 : AV} {h : AH} {Q : Rt} : MW (d + 1) 24 [v0] h Q = WPc (MW d) 24 Q 0 [some v0] [] h 2 45 := rfl
theorem en_25 {d : Nat} {v0 : AV} {h : AH} {Q : Rt} : MW (d + 1) 25 [v0] h Q = WPc (MW d) 25 Q 0 [some v0] [] h 0 0 := rfl
theorem en_26 {d : Nat} {v0 v1 : AV} {h : AH} {Q : Rt} : MW (d + 1) 26 [v0, v1] h Q = WPc (MW d) 26 Q 0 [some v0, some v1, none] [] h 0 0 := rfl
theorem en_27 {d : Nat} {v0 v1 v2 : AV} {h : AH} {Q : Rt} : MW (d + 1) 27 [v0, v1, v2] h Q = WPc (MW d) 27 Q 0 [some v0, some v1, some v2] [] h 1 5 := rfl
theorem en_28 {d : Nat} {v0 v1 v2 : AV} {h : AH} {Q : Rt} : MW (d + 1) 28 [v0, v1, v2] h Q = WPc (MW d) 28 Q 0 [some v0, some v1, some v2] [] h 0 0 := rfl
theorem en_29 {d : Nat} {v0 : AV} {h : AH} {Q : Rt} : MW (d + 1) 29 [v0] h Q = WPc (MW d) 29 Q 0 [some v0, none] [] h 0 0 := rfl
theorem en_30 {d : Nat} {v0 v1 : AV} {h : AH} {Q : Rt} : MW (d + 1) 30 [v0, v1] h Q = WPc (MW d) 30 Q 0 [some v0, some v1, none, none, none] [] h 0 0 := rfl
theorem en_31 {d : Nat} {v0 : AV} {h : AH} {Q : Rt} : MW (d + 1) 31 [v0] h Q = WPc (MW d) 31 Q 0 [some v0] [] h 0 0 := rfl
theorem en_32 {d : Nat} {v0 v1 v2 v3 : AV} {h : AH} {Q : Rt} : MW (d + 1) 32 [v0, v1, v2, v3] h Q = WPc (MW d) 32 Q 0 [some v0, some v1, some v2, some v3] [] h 0 0 := rfl
theorem en_33 {d : Nat} {v0 : AV} {h : AH} {Q : Rt} : MW (d + 1) 33 [v0] h Q = WPc (MW d) 33 Q 0 [some v0, none] [] h 40 1200 := rfl
theorem en_34 {d : Nat} {v0 : AV} {h : AH} {Q : Rt} : MW (d + 1) 34 [v0] h Q = WPc (MW d) 34 Q 0 [some v0] [] h 1 5 := rfl
theorem en_35 {d : Nat} {v0 v1 v2 : AV} {h : AH} {Q : Rt} : MW (d + 1) 35 [v0, v1, v2] h Q = WPc (MW d) 35 Q 0 [some v0, some v1, some v2, none, none, none, none] [] h 101 606 := rfl
theorem en_36 {d : Nat} {v0 v1 v2 v3 : AV} {h : AH} {Q : Rt} : MW (d + 1) 36 [v0, v1, v2, v3] h Q = WPc (MW d) 36 Q 0 [some v0, some v1, some v2, some v3] [] h 1 9 := rfl
theorem en_37 {d : Nat} {v0 v1 v2 : AV} {h : AH} {Q : Rt} : MW (d + 1) 37 [v0, v1, v2] h Q = WPc (MW d) 37 Q 0 [some v0, some v1, some v2, none] [] h 0 0 := rfl
theorem en_38 {d : Nat} {v0 v1 v2 : AV} {h : AH} {Q : Rt} : MW (d + 1) 38 [v0, v1, v2] h Q = WPc (MW d) 38 Q 0 [some v0, some v1, some v2, none, none] [] h 0 0 := rfl
theorem en_39 {d : Nat} {v0 v1 : AV} {h : AH} {Q : Rt} : MW (d + 1) 39 [v0, v1] h Q = WPc (MW d) 39 Q 0 [some v0, some v1, none] [] h 0 0 := rfl
theorem en_40 {d : Nat} {v0 v1 v2 : AV} {h : AH} {Q : Rt} : MW (d + 1) 40 [v0, v1, v2] h Q = WPc (MW d) 40 Q 0 [some v0, some v1, some v2, none] [] h 1 5 := rfl
theorem en_41 {d : Nat} {v0 v1 v2 : AV} {h : AH} {Q : Rt} : MW (d + 1) 41 [v0, v1, v2] h Q = WPc (MW d) 41 Q 0 [some v0, some v1, some v2, none] [] h 0 0 := rfl
theorem en_42 {d : Nat} {v0 : AV} {h : AH} {Q : Rt} : MW (d + 1) 42 [v0] h Q = WPc (MW d) 42 Q 0 [some v0] [] h 0 0 := rfl
theorem en_43 {d : Nat} {v0 v1 : AV} {h : AH} {Q : Rt} : MW (d + 1) 43 [v0, v1] h Q = WPc (MW d) 43 Q 0 [some v0, some v1, none] [] h 0 0 := rfl
theorem en_44 {d : Nat} {v0 v1 v2 : AV} {h : AH} {Q : Rt} : MW (d + 1) 44 [v0, v1, v2] h Q = WPc (MW d) 44 Q 0 [some v0, some v1, some v2, none] [] h 0 0 := rfl
theorem en_45 {d : Nat} {v0 v1 : AV} {h : AH} {Q : Rt} : MW (d + 1) 45 [v0, v1] h Q = WPc (MW d) 45 Q 0 [some v0, some v1] [] h 0 0 := rfl
theorem en_46 {d : Nat} {v0 v1 : AV} {h : AH} {Q : Rt} : MW (d + 1) 46 [v0, v1] h Q = WPc (MW d) 46 Q 0 [some v0, some v1, none, none, none] [] h 0 0 := rfl
theorem en_47 {d : Nat} {v0 v1 v2 : AV} {h : AH} {Q : Rt} : MW (d + 1) 47 [v0, v1, v2] h Q = WPc (MW d) 47 Q 0 [some v0, some v1, some v2, none, none] [] h 0 0 := rfl
theorem en_48 {d : Nat} {v0 v1 : AV} {h : AH} {Q : Rt} : MW (d + 1) 48 [v0, v1] h Q = WPc (MW d) 48 Q 0 [some v0, some v1, none, none, none] [] h 0 0 := rfl
theorem en_49 {d : Nat} {v0 v1 : AV} {h : AH} {Q : Rt} : MW (d + 1) 49 [v0, v1] h Q = WPc (MW d) 49 Q 0 [some v0, some v1, none] [] h 0 0 := rfl
theorem en_50 {d : Nat} {v0 v1 v2 v3 : AV} {h : AH} {Q : Rt} : MW (d + 1) 50 [v0, v1, v2, v3] h Q = WPc (MW d) 50 Q 0 [some v0, some v1, some v2, some v3] [] h 1 3 := rfl
theorem en_51 {d : Nat} {v0 v1 : AV} {h : AH} {Q : Rt} : MW (d + 1) 51 [v0, v1] h Q = WPc (MW d) 51 Q 0 [some v0, some v1, none] [] h 0 0 := rfl
theorem en_52 {d : Nat} {v0 v1 : AV} {h : AH} {Q : Rt} : MW (d + 1) 52 [v0, v1] h Q = WPc (MW d) 52 Q 0 [some v0, some v1] [] h 0 0 := rfl
theorem en_53 {d : Nat} {v0 v1 v2 : AV} {h : AH} {Q : Rt} : MW (d + 1) 53 [v0, v1, v2] h Q = WPc (MW d) 53 Q 0 [some v0, some v1, some v2] [] h 1 3 := rfl
theorem en_54 {d : Nat} {v0 v1 v2 : AV} {h : AH} {Q : Rt} : MW (d + 1) 54 [v0, v1, v2] h Q = WPc (MW d) 54 Q 0 [some v0, some v1, some v2] [] h 0 0 := rfl
theorem en_55 {d : Nat} {v0 v1 : AV} {h : AH} {Q : Rt} : MW (d + 1) 55 [v0, v1] h Q = WPc (MW d) 55 Q 0 [some v0, some v1] [] h 0 0 := rfl
theorem en_56 {d : Nat} {v0 v1 v2 : AV} {h : AH} {Q : Rt} : MW (d + 1) 56 [v0, v1, v2] h Q = WPc (MW d) 56 Q 0 [some v0, some v1, some v2, none] [] h 0 0 := rfl
theorem en_57 {d : Nat} {v0 v1 v2 : AV} {h : AH} {Q : Rt} : MW (d + 1) 57 [v0, v1, v2] h Q = WPc (MW d) 57 Q 0 [some v0, some v1, some v2, none] [] h 0 0 := rfl
theorem en_58 {d : Nat} {v0 v1 v2 : AV} {h : AH} {Q : Rt} : MW (d + 1) 58 [v0, v1, v2] h Q = WPc (MW d) 58 Q 0 [some v0, some v1, some v2, none] [] h 0 0 := rfl
theorem en_59 {d : Nat} {v0 v1 v2 : AV} {h : AH} {Q : Rt} : MW (d + 1) 59 [v0, v1, v2] h Q = WPc (MW d) 59 Q 0 [some v0, some v1, some v2, none] [] h 0 0 := rfl
theorem en_60 {d : Nat} {v0 v1 : AV} {h : AH} {Q : Rt} : MW (d + 1) 60 [v0, v1] h Q = WPc (MW d) 60 Q 0 [some v0, some v1] [] h 0 0 := rfl
theorem en_61 {d : Nat} {v0 : AV} {h : AH} {Q : Rt} : MW (d + 1) 61 [v0] h Q = WPc (MW d) 61 Q 0 [some v0] [] h 0 0 := rfl
theorem en_62 {d : Nat} {v0 : AV} {h : AH} {Q : Rt} : MW (d + 1) 62 [v0] h Q = WPc (MW d) 62 Q 0 [some v0] [] h 0 0 := rfl
theorem en_63 {d : Nat} {v0 : AV} {h : AH} {Q : Rt} : MW (d + 1) 63 [v0] h Q = WPc (MW d) 63 Q 0 [some v0] [] h 0 0 := rfl
theorem en_64 {d : Nat} {v0 v1 : AV} {h : AH} {Q : Rt} : MW (d + 1) 64 [v0, v1] h Q = WPc (MW d) 64 Q 0 [some v0, some v1] [] h 0 0 := rfl
theorem en_65 {d : Nat} {v0 v1 : AV} {h : AH} {Q : Rt} : MW (d + 1) 65 [v0, v1] h Q = WPc (MW d) 65 Q 0 [some v0, some v1] [] h 0 0 := rfl
theorem en_66 {d : Nat} {v0 v1 : AV} {h : AH} {Q : Rt} : MW (d + 1) 66 [v0, v1] h Q = WPc (MW d) 66 Q 0 [some v0, some v1] [] h 0 0 := rfl
theorem en_67 {d : Nat} {v0 v1 : AV} {h : AH} {Q : Rt} : MW (d + 1) 67 [v0, v1] h Q = WPc (MW d) 67 Q 0 [some v0, some v1] [] h 0 0 := rfl
theorem en_68 {d : Nat} {v0 v1 : AV} {h : AH} {Q : Rt} : MW (d + 1) 68 [v0, v1] h Q = WPc (MW d) 68 Q 0 [some v0, some v1, none, none] [] h 0 0 := rfl
theorem en_69 {d : Nat} {v0 : AV} {h : AH} {Q : Rt} : MW (d + 1) 69 [v0] h Q = WPc (MW d) 69 Q 0 [some v0, none, none] [] h 0 0 := rfl
theorem en_70 {d : Nat} {v0 v1 v2 : AV} {h : AH} {Q : Rt} : MW (d + 1) 70 [v0, v1, v2] h Q = WPc (MW d) 70 Q 0 [some v0, some v1, some v2] [] h 0 0 := rfl
theorem en_71 {d : Nat} {v0 v1 v2 : AV} {h : AH} {Q : Rt} : MW (d + 1) 71 [v0, v1, v2] h Q = WPc (MW d) 71 Q 0 [some v0, some v1, some v2] [] h 0 0 := rfl
theorem en_72 {d : Nat} {v0 v1 v2 : AV} {h : AH} {Q : Rt} : MW (d + 1) 72 [v0, v1, v2] h Q = WPc (MW d) 72 Q 0 [some v0, some v1, some v2] [] h 0 0 := rfl
theorem en_73 {d : Nat} {v0 v1 v2 v3 : AV} {h : AH} {Q : Rt} : MW (d + 1) 73 [v0, v1, v2, v3] h Q = WPc (MW d) 73 Q 0 [some v0, some v1, some v2, some v3, none, none] [] h 0 0 := rfl
theorem en_74 {d : Nat} {v0 : AV} {h : AH} {Q : Rt} : MW (d + 1) 74 [v0] h Q = WPc (MW d) 74 Q 0 [some v0, none] [] h 0 0 := rfl
theorem en_75 {d : Nat} {v0 : AV} {h : AH} {Q : Rt} : MW (d + 1) 75 [v0] h Q = WPc (MW d) 75 Q 0 [some v0, none, none, none, none] [] h 0 0 := rfl
theorem en_76 {d : Nat} {v0 : AV} {h : AH} {Q : Rt} : MW (d + 1) 76 [v0] h Q = WPc (MW d) 76 Q 0 [some v0, none, none, none] [] h 0 0 := rfl
theorem en_77 {d : Nat} {v0 v1 : AV} {h : AH} {Q : Rt} : MW (d + 1) 77 [v0, v1] h Q = WPc (MW d) 77 Q 0 [some v0, some v1, none, none, none] [] h 0 0 := rfl
theorem en_78 {d : Nat} {v0 : AV} {h : AH} {Q : Rt} : MW (d + 1) 78 [v0] h Q = WPc (MW d) 78 Q 0 [some v0] [] h 40 4000 := rfl
theorem en_79 {d : Nat} {v0 v1 v2 : AV} {h : AH} {Q : Rt} : MW (d + 1) 79 [v0, v1, v2] h Q = WPc (MW d) 79 Q 0 [some v0, some v1, some v2] [] h 0 0 := rfl
theorem en_80 {d : Nat} {v0 : AV} {h : AH} {Q : Rt} : MW (d + 1) 80 [v0] h Q = WPc (MW d) 80 Q 0 [some v0] [] h 0 0 := rfl
theorem en_81 {d : Nat} {v0 v1 : AV} {h : AH} {Q : Rt} : MW (d + 1) 81 [v0, v1] h Q = WPc (MW d) 81 Q 0 [some v0, some v1] [] h 0 0 := rfl
theorem en_82 {d : Nat} {v0 v1 : AV} {h : AH} {Q : Rt} : MW (d + 1) 82 [v0, v1] h Q = WPc (MW d) 82 Q 0 [some v0, some v1] [] h 0 0 := rfl
theorem en_83 {d : Nat} {v0 : AV} {h : AH} {Q : Rt} : MW (d + 1) 83 [v0] h Q = WPc (MW d) 83 Q 0 [some v0] [] h 0 0 := rfl
theorem en_84 {d : Nat} {v0 v1 v2 : AV} {h : AH} {Q : Rt} : MW (d + 1) 84 [v0, v1, v2] h Q = WPc (MW d) 84 Q 0 [some v0, some v1, some v2, none, none] [] h 0 0 := rfl
theorem en_85 {d : Nat} {v0 v1 v2 v3 : AV} {h : AH} {Q : Rt} : MW (d + 1) 85 [v0, v1, v2, v3] h Q = WPc (MW d) 85 Q 0 [some v0, some v1, some v2, some v3] [] h 0 0 := rfl
theorem en_86 {d : Nat} {v0 v1 v2 : AV} {h : AH} {Q : Rt} : MW (d + 1) 86 [v0, v1, v2] h Q = WPc (MW d) 86 Q 0 [some v0, some v1, some v2] [] h 0 0 := rfl
theorem en_87 {d : Nat} {v0 v1 v2 : AV} {h : AH} {Q : Rt} : MW (d + 1) 87 [v0, v1, v2] h Q = WPc (MW d) 87 Q 0 [some v0, some v1, some v2] [] h 0 0 := rfl
theorem en_88 {d : Nat} {v0 v1 v2 : AV} {h : AH} {Q : Rt} : MW (d + 1) 88 [v0, v1, v2] h Q = WPc (MW d) 88 Q 0 [some v0, some v1, some v2] [] h 0 0 := rfl
theorem en_89 {d : Nat} {v0 v1 : AV} {h : AH} {Q : Rt} : MW (d + 1) 89 [v0, v1] h Q = WPc (MW d) 89 Q 0 [some v0, some v1] [] h 0 0 := rfl
theorem en_90 {d : Nat} {v0 v1 v2 : AV} {h : AH} {Q : Rt} : MW (d + 1) 90 [v0, v1, v2] h Q = WPc (MW d) 90 Q 0 [some v0, some v1, some v2, none] [] h 0 0 := rfl
theorem en_91 {d : Nat} {v0 v1 v2 : AV} {h : AH} {Q : Rt} : MW (d + 1) 91 [v0, v1, v2] h Q = WPc (MW d) 91 Q 0 [some v0, some v1, some v2] [] h 0 0 := rfl
theorem en_92 {d : Nat} {v0 : AV} {h : AH} {Q : Rt} : MW (d + 1) 92 [v0] h Q = WPc (MW d) 92 Q 0 [some v0] [] h 0 0 := rfl
theorem en_93 {d : Nat} {v0 : AV} {h : AH} {Q : Rt} : MW (d + 1) 93 [v0] h Q = WPc (MW d) 93 Q 0 [some v0, none, none] [] h 0 0 := rfl
theorem en_94 {d : Nat} {v0 v1 : AV} {h : AH} {Q : Rt} : MW (d + 1) 94 [v0, v1] h Q = WPc (MW d) 94 Q 0 [some v0, some v1] [] h 0 0 := rfl
theorem en_95 {d : Nat} {v0 v1 : AV} {h : AH} {Q : Rt} : MW (d + 1) 95 [v0, v1] h Q = WPc (MW d) 95 Q 0 [some v0, some v1, none] [] h 0 0 := rfl
theorem en_96 {d : Nat} {v0 v1 : AV} {h : AH} {Q : Rt} : MW (d + 1) 96 [v0, v1] h Q = WPc (MW d) 96 Q 0 [some v0, some v1] [] h 0 0 := rfl
theorem en_97 {d : Nat} {v0 v1 v2 : AV} {h : AH} {Q : Rt} : MW (d + 1) 97 [v0, v1, v2] h Q = WPc (MW d) 97 Q 0 [some v0, some v1, some v2] [] h 0 0 := rfl
theorem en_98 {d : Nat} {v0 v1 : AV} {h : AH} {Q : Rt} : MW (d + 1) 98 [v0, v1] h Q = WPc (MW d) 98 Q 0 [some v0, some v1] [] h 0 0 := rfl
theorem en_99 {d : Nat} {v0 v1 : AV} {h : AH} {Q : Rt} : MW (d + 1) 99 [v0, v1] h Q = WPc (MW d) 99 Q 0 [some v0, some v1, none, none] [] h 0 0 := rfl
theorem en_100 {d : Nat} {v0 v1 v2 : AV} {h : AH} {Q : Rt} : MW (d + 1) 100 [v0, v1, v2] h Q = WPc (MW d) 100 Q 0 [some v0, some v1, some v2] [] h 0 0 := rfl
theorem en_101 {d : Nat} {v0 v1 : AV} {h : AH} {Q : Rt} : MW (d + 1) 101 [v0, v1] h Q = WPc (MW d) 101 Q 0 [some v0, some v1, none, none, none] [] h 0 0 := rfl
theorem en_102 {d : Nat} {v0 v1 : AV} {h : AH} {Q : Rt} : MW (d + 1) 102 [v0, v1] h Q = WPc (MW d) 102 Q 0 [some v0, some v1, none, none] [] h 0 0 := rfl
theorem en_103 {d : Nat} {v0 : AV} {h : AH} {Q : Rt} : MW (d + 1) 103 [v0] h Q = WPc (MW d) 103 Q 0 [some v0, none, none, none] [] h 0 0 := rfl
theorem en_104 {d : Nat} {v0 v1 v2 v3 : AV} {h : AH} {Q : Rt} : MW (d + 1) 104 [v0, v1, v2, v3] h Q = WPc (MW d) 104 Q 0 [some v0, some v1, some v2, some v3] [] h 0 0 := rfl
theorem en_105 {d : Nat} {v0 v1 : AV} {h : AH} {Q : Rt} : MW (d + 1) 105 [v0, v1] h Q = WPc (MW d) 105 Q 0 [some v0, some v1, none, none, none] [] h 0 0 := rfl
theorem en_106 {d : Nat} {v0 v1 v2 v3 : AV} {h : AH} {Q : Rt} : MW (d + 1) 106 [v0, v1, v2, v3] h Q = WPc (MW d) 106 Q 0 [some v0, some v1, some v2, some v3, none, none, none, none, none] [] h 0 0 := rfl
theorem en_107 {d : Nat} {v0 v1 : AV} {h : AH} {Q : Rt} : MW (d + 1) 107 [v0, v1] h Q = WPc (MW d) 107 Q 0 [some v0, some v1, none, none, none] [] h 0 0 := rfl
theorem en_108 {d : Nat} {v0 v1 : AV} {h : AH} {Q : Rt} : MW (d + 1) 108 [v0, v1] h Q = WPc (MW d) 108 Q 0 [some v0, some v1] [] h 0 0 := rfl
theorem en_109 {d : Nat} {v0 v1 v2 : AV} {h : AH} {Q : Rt} : MW (d + 1) 109 [v0, v1, v2] h Q = WPc (MW d) 109 Q 0 [some v0, some v1, some v2] [] h 0 0 := rfl
theorem en_110 {d : Nat} {v0 v1 : AV} {h : AH} {Q : Rt} : MW (d + 1) 110 [v0, v1] h Q = WPc (MW d) 110 Q 0 [some v0, some v1] [] h 0 0 := rfl
theorem en_111 {d : Nat} {v0 v1 v2 : AV} {h : AH} {Q : Rt} : MW (d + 1) 111 [v0, v1, v2] h Q = WPc (MW d) 111 Q 0 [some v0, some v1, some v2, none, none, none, none, none, none] [] h 0 0 := rfl
theorem en_112 {d : Nat} {v0 v1 : AV} {h : AH} {Q : Rt} : MW (d + 1) 112 [v0, v1] h Q = WPc (MW d) 112 Q 0 [some v0, some v1, none, none, none] [] h 0 0 := rfl
theorem en_113 {d : Nat} {v0 v1 v2 : AV} {h : AH} {Q : Rt} : MW (d + 1) 113 [v0, v1, v2] h Q = WPc (MW d) 113 Q 0 [some v0, some v1, some v2] [] h 0 0 := rfl
theorem en_114 {d : Nat} {v0 v1 v2 : AV} {h : AH} {Q : Rt} : MW (d + 1) 114 [v0, v1, v2] h Q = WPc (MW d) 114 Q 0 [some v0, some v1, some v2] [] h 0 0 := rfl
theorem en_115 {d : Nat} {v0 v1 v2 : AV} {h : AH} {Q : Rt} : MW (d + 1) 115 [v0, v1, v2] h Q = WPc (MW d) 115 Q 0 [some v0, some v1, some v2, none, none] [] h 0 0 := rfl
theorem en_116 {d : Nat} {v0 v1 v2 : AV} {h : AH} {Q : Rt} : MW (d + 1) 116 [v0, v1, v2] h Q = WPc (MW d) 116 Q 0 [some v0, some v1, some v2] [] h 0 0 := rfl
theorem en_117 {d : Nat} {v0 v1 : AV} {h : AH} {Q : Rt} : MW (d + 1) 117 [v0, v1] h Q = WPc (MW d) 117 Q 0 [some v0, some v1, none, none] [] h 0 0 := rfl
theorem en_118 {d : Nat} {v0 v1 : AV} {h : AH} {Q : Rt} : MW (d + 1) 118 [v0, v1] h Q = WPc (MW d) 118 Q 0 [some v0, some v1, none, none] [] h 0 0 := rfl
