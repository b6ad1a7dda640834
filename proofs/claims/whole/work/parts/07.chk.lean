def isFin (c j : Nat) : Bool := (kT c j).2.2.2
def okE (m pc : Nat) (e : En) : Bool := match e with
  | (.aload_n k, n, a, _, _) => n == 1 && k.val == a && Nat.blt a (mL m)
  | (.aload i, n, a, _, _) => n == 2 && i == a && Nat.blt a (mL m)
  | (.iload_n k, n, a, _, _) => n == 1 && k.val == a && Nat.blt a (mL m)
  | (.iload i, n, a, _, _) => n == 2 && i == a && Nat.blt a (mL m)
  | (.astore_n k, n, a, _, _) => n == 1 && k.val == a && Nat.blt a (mL m)
  | (.astore i, n, a, _, _) => n == 2 && i == a && Nat.blt a (mL m)
  | (.istore_n k, n, a, _, _) => n == 1 && k.val == a && Nat.blt a (mL m)
  | (.istore i, n, a, _, _) => n == 2 && i == a && Nat.blt a (mL m)
  | (.iconst i, n, _, _, v) => n == 1 && Int32.ofInt i == v
  | (.bipush i, n, _, _, v) => n == 2 && (Int8.ofInt i).toInt32 == v
  | (.sipush i, n, _, _, v) => n == 3 && (Int16.ofInt i).toInt32 == v
  | (.ldc i, n, _, _, v) => n == 2 && ctT.contains (mO m, i, v)
  | (.iinc i k, n, a, _, v) => n == 3 && i == a && Int32.ofInt k == v && Nat.blt a (mL m)
  | (.if_icmp _ o, n, a, _, _) => n == 3 && (pc : Int) + o == (a : Int)
  | (.ifCond _ o, n, a, _, _) => n == 3 && (pc : Int) + o == (a : Int)
  | (.ifnull o, n, a, _, _) => n == 3 && (pc : Int) + o == (a : Int)
  | (.ifnonnull o, n, a, _, _) => n == 3 && (pc : Int) + o == (a : Int)
  | (.goto o, n, a, _, _) => n == 3 && (pc : Int) + o == (a : Int)
  | (.getfield i, n, c, j, _) => n == 3 && flT.contains (mO m, i, c, j)
  | (.putfield i, n, c, j, _) => n == 3 && flT.contains (mO m, i, c, j) && (!isFin c j || ((mY m).name == "<init>" && (kT c j).1 == kN (mO m)))
  | (.new i, n, c, _, _) => n == 3 && clT.contains (mO m, i, c)
  | (.newarray t, n, c, _, _) => n == 2 && ((t == .int && c == 20) || (t == .boolean && c == 21))
  | (.anewarray i, n, c, _, _) => n == 3 && clT.contains (mO m, i, c - 30) && Nat.blt 30 c && aoL.contains (c - 30)
  | (.iaload, n, c, _, _) => n == 1 && (c == 19 || c == 20)
  | (.iastore, n, c, _, _) => n == 1 && c == 20
  | (.baload, n, c, _, _) => n == 1 && c == 21
  | (.bastore, n, c, _, _) => n == 1 && c == 21
  | (.aaload, n, c, _, _) => n == 1 && Nat.blt 30 c && aoL.contains (c - 30)
  | (.aastore, n, c, _, _) => n == 1 && Nat.blt 30 c && aoL.contains (c - 30)
  | (.arraylength, n, c, _, _) => n == 1 && c == 19
  | (.invokevirtual i, n, m', _, _) => n == 3 && mlT.contains (mO m, i, m')
  | (.invokestatic i, n, m', _, _) => n == 3 && (if m' < 900 then mlT.contains (mO m, i, m') else spT.contains (mO m, i, m'))
  | (.invokespecial i, n, m', b, _) => n == 3 && (if m' = 904 then spT.contains (mO m, i, 904) else (mY m').name == "<init>" && (if b = 0 then mlT.contains (mO m, i, m') else nlT.contains (mO m, i, m')))
  | (.tableswitch d lo hi offs, _, k, b, _) => lo == 0 && hi + 1 == (offs.size : Int) && (pc : Int) + d == (b : Int) && (swL k).length == offs.size && (List.range offs.size).all (fun i => (swL k)[i]? == some (Int32.ofInt i, ((pc : Int) + offs.getD i 0).toNat) && (0 : Int) ≤ (pc : Int) + offs.getD i 0)
  | (_, n, _, _, _) => n == 1
def okD (m : Nat) (q : Nat × En) : Bool := decide (decode (mC m) q.1 = .ok (q.2.1, q.2.2.1)) && okE m q.1 q.2
theorem okd_0 : (tb0).all (okD 0) = true := by decide +kernel
theorem okd_1 : (tb1).all (okD 1) = true := by decide +kernel
theorem okd_2 : (tb2).all (okD 2) = true := by decide +kernel
theorem okd_3 : (tb3).all (okD 3) = true := by decide +kernel
theorem okd_4 : (tb4).all (okD 4) = true := by decide +kernel
theorem okd_5 : (tb5).all (okD 5) = true := by decide +kernel
theorem okd_6 : (tb6).all (okD 6) = true := by decide +kernel
theorem okd_7 : (tb7).all (okD 7) = true := by decide +kernel
theorem okd_8 : (tb8).all (okD 8) = true := by decide +kernel
theorem okd_9 : (tb9).all (okD 9) = true := by decide +kernel
theorem okd_10 : (tb10).all (okD 10) = true := by decide +kernel
theorem okd_11 : (tb11).all (okD 11) = true := by decide +kernel
theorem okd_12 : (tb12).all (okD 12) = true := by decide +kernel
theorem okd_13 : (tb13).all (okD 13) = true := by decide +kernel
theorem okd_14 : (tb14).all (okD 14) = true := by decide +kernel
theorem okd_15 : (tb15).all (okD 15) = true := by decide +kernel
theorem okd_16 : (tb16).all (okD 16) = true := by decide +kernel
theorem okd_17 : (tb17).all (okD 17) = true := by decide +kernel
theorem okd_18 : (tb18).all (okD 18) = true := by decide +kernel
theorem okd_19 : (tb19).all (okD 19) = true := by decide +kernel
theorem okd_20 : (tb20).all (okD 20) = true := by decide +kernel
theorem okd_21 : (tb21).all (okD 21) = true := by decide +kernel
theorem okd_22 : (tb22).all (okD 22) = true := by decide +kernel
theorem okd_23 : (tb23).all (okD 23) = true := by decide +kernel
theorem okd_24 : (tb24).all (okD 24) = true := by decide +kernel
theorem okd_25 : (tb25).all (okD 25) = true := by decide +kernel
theorem okd_26 : (tb26).all (okD 26) = true := by decide +kernel
theorem okd_27 : (tb27).all (okD 27) = true := by decide +kernel
theorem okd_28 : (tb28).all (okD 28) = true := by decide +kernel
theorem okd_29 : (tb29).all (okD 29) = true := by decide +kernel
theorem okd_30 : (tb30).all (okD 30) = true := by decide +kernel
theorem okd_31 : (tb31).all (okD 31) = true := by decide +kernel
theorem okd_32 : (tb32).all (okD 32) = true := by decide +kernel
theorem okd_33 : (tb33).all (okD 33) = true := by decide +kernel
theorem okd_34 : (tb34).all (okD 34) = true := by decide +kernel
theorem okd_35 : (tb35).all (okD 35) = true := by decide +kernel
theorem okd_36 : (tb36).all (okD 36) = true := by decide +kernel
theorem okd_37 : (tb37).all (okD 37) = true := by decide +kernel
theorem okd_38 : (tb38).all (okD 38) = true := by decide +kernel
theorem okd_39 : (tb39).all (okD 39) = true := by decide +kernel
theorem okd_40 : (tb40).all (okD 40) = true := by decide +kernel
theorem okd_41 : (tb41).all (okD 41) = true := by decide +kernel
theorem okd_42 : (tb42).all (okD 42) = true := by decide +kernel
theorem okd_43 : (tb43).all (okD 43) = true := by decide +kernel
theorem okd_44 : (tb44).all (okD 44) = true := by decide +kernel
theorem okd_45 : (tb45).all (okD 45) = true := by decide +kernel
theorem okd_46 : (tb46).all (okD 46) = true := by decide +kernel
theorem okd_47 : (tb47).all (okD 47) = true := by decide +kernel
theorem okd_48 : (tb48).all (okD 48) = true := by decide +kernel
theorem okd_49 : (tb49).all (okD 49) = true := by decide +kernel
theorem okd_50 : (tb50).all (okD 50) = true := by decide +kernel
theorem okd_51 : (tb51).all (okD 51) = true := by decide +kernel
theorem okd_52 : (tb52).all (okD 52) = true := by decide +kernel
theorem okd_53 : (tb53).all (okD 53) = true := by decide +kernel
theorem okd_54 : (tb54).all (okD 54) = true := by decide +kernel
theorem okd_55 : (tb55).all (okD 55) = true := by decide +kernel
theorem okd_56 : (tb56).all (okD 56) = true := by decide +kernel
theorem okd_57 : (tb57).all (okD 57) = true := by decide +kernel
theorem okd_58 : (tb58).all (okD 58) = true := by decide +kernel
theorem okd_59 : (tb59).all (okD 59) = true := by decide +kernel
theorem okd_60 : (tb60).all (okD 60) = true := by decide +kernel
theorem okd_61 : (tb61).all (okD 61) = true := by decide +kernel
theorem okd_62 : (tb62).all (okD 62) = true := by decide +kernel
theorem okd_63 : (tb63).all (okD 63) = true := by decide +kernel
theorem okd_64 : (tb64).all (okD 64) = true := by decide +kernel
theorem okd_65 : (tb65).all (okD 65) = true := by decide +kernel
theorem okd_66 : (tb66).all (okD 66) = true := by decide +kernel
theorem okd_67 : (tb67).all (okD 67) = true := by decide +kernel
theorem okd_68 : (tb68).all (okD 68) = true := by decide +kernel
theorem okd_69 : (tb69).all (okD 69) = true := by decide +kernel
theorem okd_70 : (tb70).all (okD 70) = true := by decide +kernel
theorem okd_71 : (tb71).all (okD 71) = true := by decide +kernel
theorem okd_72 : (tb72).all (okD 72) = true := by decide +kernel
theorem okd_73 : (tb73).all (okD 73) = true := by decide +kernel
theorem okd_74 : (tb74).all (okD 74) = true := by decide +kernel
theorem okd_75 : (tb75).all (okD 75) = true := by decide +kernel
theorem okd_76 : (tb76).all (okD 76) = true := by decide +kernel
theorem okd_77 : (tb77).all (okD 77) = true := by decide +kernel
theorem okd_78 : (tb78).all (okD 78) = true := by decide +kernel
theorem okd_79 : (tb79).all (okD 79) = true := by decide +kernel
theorem okd_80 : (tb80).all (okD 80) = true := by decide +kernel
theorem okd_81 : (tb81).all (okD 81) = true := by decide +kernel
theorem okd_82 : (tb82).all (okD 82) = true := by decide +kernel
theorem okd_83 : (tb83).all (okD 83) = true := by decide +kernel
theorem okd_84 : (tb84).all (okD 84) = true := by decide +kernel
theorem okd_85 : (tb85).all (okD 85) = true := by decide +kernel
theorem okd_86 : (tb86).all (okD 86) = true := by decide +kernel
theorem okd_87 : (tb87).all (okD 87) = true := by decide +kernel
theorem okd_88 : (tb88).all (okD 88) = true := by decide +kernel
theorem okd_89 : (tb89).all (okD 89) = true := by decide +kernel
theorem okd_90 : (tb90).all (okD 90) = true := by decide +kernel
theorem okd_91 : (tb91).all (okD 91) = true := by decide +kernel
theorem okd_92 : (tb92).all (okD 92) = true := by decide +kernel
theorem okd_93 : (tb93).all (okD 93) = true := by decide +kernel
theorem okd_94 : (tb94).all (okD 94) = true := by decide +kernel
theorem okd_95 : (tb95).all (okD 95) = true := by decide +kernel
theorem okd_96 : (tb96).all (okD 96) = true := by decide +kernel
theorem okd_97 : (tb97).all (okD 97) = true := by decide +kernel
theorem okd_98 : (tb98).all (okD 98) = true := by decide +kernel
theorem okd_99 : (tb99).all (okD 99) = true := by decide +kernel
theorem okd_100 : (tb100).all (okD 100) = true := by decide +kernel
theorem okd_101 : (tb101).all (okD 101) = true := by decide +kernel
theorem okd_102 : (tb102).all (okD 102) = true := by decide +kernel
theorem okd_103 : (tb103).all (okD 103) = true := by decide +kernel
theorem okd_104 : (tb104).all (okD 104) = true := by decide +kernel
theorem okd_105 : (tb105).all (okD 105) = true := by decide +kernel
theorem okd_106 : (tb106).all (okD 106) = true := by decide +kernel
theorem okd_107 : (tb107).all (okD 107) = true := by decide +kernel
theorem okd_108 : (tb108).all (okD 108) = true := by decide +kernel
theorem okd_109 : (tb109).all (okD 109) = true := by decide +kernel
theorem okd_110 : (tb110).all (okD 110) = true := by decide +kernel
theorem okd_111 : (tb111).all (okD 111) = true := by decide +kernel
theorem okd_112 : (tb112).all (okD 112) = true := by decide +kernel
theorem okd_113 : (tb113).all (okD 113) = true := by decide +kernel
theorem okd_114 : (tb114).all (okD 114) = true := by decide +kernel
theorem okd_115 : (tb115).all (okD 115) = true := by decide +kernel
theorem okd_116 : (tb116).all (okD 116) = true := by decide +kernel
theorem okd_117 : (tb117).all (okD 117) = true := by decide +kernel
theorem okd_118 : (tb118).all (okD 118) = true := by decide +kernel
