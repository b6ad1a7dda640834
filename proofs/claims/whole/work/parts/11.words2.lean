def mSt : Nat → Bool := fun m => match m with
  | 7 => true
  | 22 => true
  | 61 => true
  | 62 => true
  | 63 => true
  | 72 => true
  | 79 => true
  | 80 => true
  | _ => false
set_option maxRecDepth 100000 in
theorem mc_0 : Cond.code (mY 0) (mC 0) (mL 0) (mR 0) ∈ lw_good := List.mem_filter.mpr ⟨List.mem_of_getElem? (i := 166) rfl, rfl⟩
theorem mi_0 : Cond.initialized (mY 0).cls ∈ lw_good := List.mem_filter.mpr ⟨List.mem_of_getElem? (i := 36) (by decide +kernel), rfl⟩
theorem ms_0 : Cond.instanceMethod (mY 0) ∈ lw_good := List.mem_filter.mpr ⟨List.mem_of_getElem? (i := 165) (by decide +kernel), rfl⟩
set_option maxRecDepth 100000 in
theorem mc_1 : Cond.code (mY 1) (mC 1) (mL 1) (mR 1) ∈ lw_good := List.mem_filter.mpr ⟨List.mem_of_getElem? (i := 581) rfl, rfl⟩
theorem mi_1 : Cond.initialized (mY 1).cls ∈ lw_good := List.mem_filter.mpr ⟨List.mem_of_getElem? (i := 36) (by decide +kernel), rfl⟩
theorem ms_1 : Cond.instanceMethod (mY 1) ∈ lw_good := List.mem_filter.mpr ⟨List.mem_of_getElem? (i := 579) (by decide +kernel), rfl⟩
theorem mv_1 : Cond.selects (kN (mO 1)) (mY 1) (mY 1) ∈ lw_good := List.mem_filter.mpr ⟨List.mem_of_getElem? (i := 580) (by decide +kernel), rfl⟩
set_option maxRecDepth 100000 in
theorem mc_2 : Cond.code (mY 2) (mC 2) (mL 2) (mR 2) ∈ lw_good := List.mem_filter.mpr ⟨List.mem_of_getElem? (i := 608) rfl, rfl⟩
theorem mi_2 : Cond.initialized (mY 2).cls ∈ lw_good := List.mem_filter.mpr ⟨List.mem_of_getElem? (i := 36) (by decide +kernel), rfl⟩
theorem ms_2 : Cond.instanceMethod (mY 2) ∈ lw_good := List.mem_filter.mpr ⟨List.mem_of_getElem? (i := 606) (by decide +kernel), rfl⟩
theorem mv_2 : Cond.selects (kN (mO 2)) (mY 2) (mY 2) ∈ lw_good := List.mem_filter.mpr ⟨List.mem_of_getElem? (i := 607) (by decide +kernel), rfl⟩
set_option maxRecDepth 100000 in
theorem mc_3 : Cond.code (mY 3) (mC 3) (mL 3) (mR 3) ∈ lw_good := List.mem_filter.mpr ⟨List.mem_of_getElem? (i := 619) rfl, rfl⟩
theorem mi_3 : Cond.initialized (mY 3).cls ∈ lw_good := List.mem_filter.mpr ⟨List.mem_of_getElem? (i := 36) (by decide +kernel), rfl⟩
theorem ms_3 : Cond.instanceMethod (mY 3) ∈ lw_good := List.mem_filter.mpr ⟨List.mem_of_getElem? (i := 617) (by decide +kernel), rfl⟩
theorem mv_3 : Cond.selects (kN (mO 3)) (mY 3) (mY 3) ∈ lw_good := List.mem_filter.mpr ⟨List.mem_of_getElem? (i := 618) (by decide +kernel), rfl⟩
set_option maxRecDepth 100000 in
theorem mc_4 : Cond.code (mY 4) (mC 4) (mL 4) (mR 4) ∈ lw_good := List.mem_filter.mpr ⟨List.mem_of_getElem? (i := 612) rfl, rfl⟩
theorem mi_4 : Cond.initialized (mY 4).cls ∈ lw_good := List.mem_filter.mpr ⟨List.mem_of_getElem? (i := 36) (by decide +kernel), rfl⟩
theorem ms_4 : Cond.instanceMethod (mY 4) ∈ lw_good := List.mem_filter.mpr ⟨List.mem_of_getElem? (i := 611) (by decide +kernel), rfl⟩
theorem mv_4 : Cond.selects (kN (mO 4)) (mY 4) (mY 4) ∈ lw_good := List.mem_filter.mpr ⟨List.mem_of_getElem? (i := 16) (by decide +kernel), rfl⟩
set_option maxRecDepth 100000 in
theorem mc_5 : Cond.code (mY 5) (mC 5) (mL 5) (mR 5) ∈ lw_good := List.mem_filter.mpr ⟨List.mem_of_getElem? (i := 604) rfl, rfl⟩
theorem mi_5 : Cond.initialized (mY 5).cls ∈ lw_good := List.mem_filter.mpr ⟨List.mem_of_getElem? (i := 36) (by decide +kernel), rfl⟩
theorem ms_5 : Cond.instanceMethod (mY 5) ∈ lw_good := List.mem_filter.mpr ⟨List.mem_of_getElem? (i := 603) (by decide +kernel), rfl⟩
theorem mv_5 : Cond.selects (kN (mO 5)) (mY 5) (mY 5) ∈ lw_good := List.mem_filter.mpr ⟨List.mem_of_getElem? (i := 15) (by decide +kernel), rfl⟩
set_option maxRecDepth 100000 in
theorem mc_6 : Cond.code (mY 6) (mC 6) (mL 6) (mR 6) ∈ lw_good := List.mem_filter.mpr ⟨List.mem_of_getElem? (i := 623) rfl, rfl⟩
theorem mi_6 : Cond.initialized (mY 6).cls ∈ lw_good := List.mem_filter.mpr ⟨List.mem_of_getElem? (i := 36) (by decide +kernel), rfl⟩
theorem ms_6 : Cond.instanceMethod (mY 6) ∈ lw_good := List.mem_filter.mpr ⟨List.mem_of_getElem? (i := 622) (by decide +kernel), rfl⟩
theorem mv_6 : Cond.selects (kN (mO 6)) (mY 6) (mY 6) ∈ lw_good := List.mem_filter.mpr ⟨List.mem_of_getElem? (i := 17) (by decide +kernel), rfl⟩
set_option maxRecDepth 100000 in
theorem mc_7 : Cond.code (mY 7) (mC 7) (mL 7) (mR 7) ∈ lw_good := List.mem_filter.mpr ⟨List.mem_of_getElem? (i := 615) rfl, rfl⟩
theorem mi_7 : Cond.initialized (mY 7).cls ∈ lw_good := List.mem_filter.mpr ⟨List.mem_of_getElem? (i := 36) (by decide +kernel), rfl⟩
theorem ms_7 : Cond.static (mY 7) ∈ lw_good := List.mem_filter.mpr ⟨List.mem_of_getElem? (i := 614) (by decide +kernel), rfl⟩
set_option maxRecDepth 100000 in
theorem mc_8 : Cond.code (mY 8) (mC 8) (mL 8) (mR 8) ∈ lw_good := List.mem_filter.mpr ⟨List.mem_of_getElem? (i := 288) rfl, rfl⟩
theorem mi_8 : Cond.initialized (mY 8).cls ∈ lw_good := List.mem_filter.mpr ⟨List.mem_of_getElem? (i := 40) (by decide +kernel), rfl⟩
theorem ms_8 : Cond.instanceMethod (mY 8) ∈ lw_good := List.mem_filter.mpr ⟨List.mem_of_getElem? (i := 287) (by decide +kernel), rfl⟩
set_option maxRecDepth 100000 in
theorem mc_9 : Cond.code (mY 9) (mC 9) (mL 9) (mR 9) ∈ lw_good := List.mem_filter.mpr ⟨List.mem_of_getElem? (i := 586) rfl, rfl⟩
theorem mi_9 : Cond.initialized (mY 9).cls ∈ lw_good := List.mem_filter.mpr ⟨List.mem_of_getElem? (i := 45) (by decide +kernel), rfl⟩
theorem ms_9 : Cond.instanceMethod (mY 9) ∈ lw_good := List.mem_filter.mpr ⟨List.mem_of_getElem? (i := 585) (by decide +kernel), rfl⟩
set_option maxRecDepth 100000 in
theorem mc_10 : Cond.code (mY 10) (mC 10) (mL 10) (mR 10) ∈ lw_good := List.mem_filter.mpr ⟨List.mem_of_getElem? (i := 328) rfl, rfl⟩
theorem mi_10 : Cond.initialized (mY 10).cls ∈ lw_good := List.mem_filter.mpr ⟨List.mem_of_getElem? (i := 41) (by decide +kernel), rfl⟩
theorem ms_10 : Cond.instanceMethod (mY 10) ∈ lw_good := List.mem_filter.mpr ⟨List.mem_of_getElem? (i := 327) (by decide +kernel), rfl⟩
set_option maxRecDepth 100000 in
theorem mc_11 : Cond.code (mY 11) (mC 11) (mL 11) (mR 11) ∈ lw_good := List.mem_filter.mpr ⟨List.mem_of_getElem? (i := 181) rfl, rfl⟩
theorem mi_11 : Cond.initialized (mY 11).cls ∈ lw_good := List.mem_filter.mpr ⟨List.mem_of_getElem? (i := 37) (by decide +kernel), rfl⟩
theorem ms_11 : Cond.instanceMethod (mY 11) ∈ lw_good := List.mem_filter.mpr ⟨List.mem_of_getElem? (i := 180) (by decide +kernel), rfl⟩
set_option maxRecDepth 100000 in
theorem mc_12 : Cond.code (mY 12) (mC 12) (mL 12) (mR 12) ∈ lw_good := List.mem_filter.mpr ⟨List.mem_of_getElem? (i := 124) rfl, rfl⟩
theorem mi_12 : Cond.initialized (mY 12).cls ∈ lw_good := List.mem_filter.mpr ⟨List.mem_of_getElem? (i := 35) (by decide +kernel), rfl⟩
theorem ms_12 : Cond.instanceMethod (mY 12) ∈ lw_good := List.mem_filter.mpr ⟨List.mem_of_getElem? (i := 123) (by decide +kernel), rfl⟩
set_option maxRecDepth 100000 in
theorem mc_13 : Cond.code (mY 13) (mC 13) (mL 13) (mR 13) ∈ lw_good := List.mem_filter.mpr ⟨List.mem_of_getElem? (i := 522) rfl, rfl⟩
theorem mi_13 : Cond.initialized (mY 13).cls ∈ lw_good := List.mem_filter.mpr ⟨List.mem_of_getElem? (i := 35) (by decide +kernel), rfl⟩
theorem ms_13 : Cond.instanceMethod (mY 13) ∈ lw_good := List.mem_filter.mpr ⟨List.mem_of_getElem? (i := 520) (by decide +kernel), rfl⟩
theorem mv_13 : Cond.selects (kN (mO 13)) (mY 13) (mY 13) ∈ lw_good := List.mem_filter.mpr ⟨List.mem_of_getElem? (i := 521) (by decide +kernel), rfl⟩
set_option maxRecDepth 100000 in
theorem mc_14 : Cond.code (mY 14) (mC 14) (mL 14) (mR 14) ∈ lw_good := List.mem_filter.mpr ⟨List.mem_of_getElem? (i := 526) rfl, rfl⟩
theorem mi_14 : Cond.initialized (mY 14).cls ∈ lw_good := List.mem_filter.mpr ⟨List.mem_of_getElem? (i := 35) (by decide +kernel), rfl⟩
theorem ms_14 : Cond.instanceMethod (mY 14) ∈ lw_good := List.mem_filter.mpr ⟨List.mem_of_getElem? (i := 524) (by decide +kernel), rfl⟩
theorem mv_14 : Cond.selects (kN (mO 14)) (mY 14) (mY 14) ∈ lw_good := List.mem_filter.mpr ⟨List.mem_of_getElem? (i := 525) (by decide +kernel), rfl⟩
set_option maxRecDepth 100000 in
theorem mc_15 : Cond.code (mY 15) (mC 15) (mL 15) (mR 15) ∈ lw_good := List.mem_filter.mpr ⟨List.mem_of_getElem? (i := 530) rfl, rfl⟩
theorem mi_15 : Cond.initialized (mY 15).cls ∈ lw_good := List.mem_filter.mpr ⟨List.mem_of_getElem? (i := 35) (by decide +kernel), rfl⟩
theorem ms_15 : Cond.instanceMethod (mY 15) ∈ lw_good := List.mem_filter.mpr ⟨List.mem_of_getElem? (i := 528) (by decide +kernel), rfl⟩
theorem mv_15 : Cond.selects (kN (mO 15)) (mY 15) (mY 15) ∈ lw_good := List.mem_filter.mpr ⟨List.mem_of_getElem? (i := 529) (by decide +kernel), rfl⟩
set_option maxRecDepth 100000 in
theorem mc_16 : Cond.code (mY 16) (mC 16) (mL 16) (mR 16) ∈ lw_good := List.mem_filter.mpr ⟨List.mem_of_getElem? (i := 534) rfl, rfl⟩
theorem mi_16 : Cond.initialized (mY 16).cls ∈ lw_good := List.mem_filter.mpr ⟨List.mem_of_getElem? (i := 35) (by decide +kernel), rfl⟩
theorem ms_16 : Cond.instanceMethod (mY 16) ∈ lw_good := List.mem_filter.mpr ⟨List.mem_of_getElem? (i := 532) (by decide +kernel), rfl⟩
theorem mv_16 : Cond.selects (kN (mO 16)) (mY 16) (mY 16) ∈ lw_good := List.mem_filter.mpr ⟨List.mem_of_getElem? (i := 533) (by decide +kernel), rfl⟩
set_option maxRecDepth 100000 in
theorem mc_17 : Cond.code (mY 17) (mC 17) (mL 17) (mR 17) ∈ lw_good := List.mem_filter.mpr ⟨List.mem_of_getElem? (i := 569) rfl, rfl⟩
theorem mi_17 : Cond.initialized (mY 17).cls ∈ lw_good := List.mem_filter.mpr ⟨List.mem_of_getElem? (i := 35) (by decide +kernel), rfl⟩
theorem ms_17 : Cond.instanceMethod (mY 17) ∈ lw_good := List.mem_filter.mpr ⟨List.mem_of_getElem? (i := 567) (by decide +kernel), rfl⟩
theorem mv_17 : Cond.selects (kN (mO 17)) (mY 17) (mY 17) ∈ lw_good := List.mem_filter.mpr ⟨List.mem_of_getElem? (i := 568) (by decide +kernel), rfl⟩
set_option maxRecDepth 100000 in
theorem mc_18 : Cond.code (mY 18) (mC 18) (mL 18) (mR 18) ∈ lw_good := List.mem_filter.mpr ⟨List.mem_of_getElem? (i := 541) rfl, rfl⟩
theorem mi_18 : Cond.initialized (mY 18).cls ∈ lw_good := List.mem_filter.mpr ⟨List.mem_of_getElem? (i := 35) (by decide +kernel), rfl⟩
theorem ms_18 : Cond.instanceMethod (mY 18) ∈ lw_good := List.mem_filter.mpr ⟨List.mem_of_getElem? (i := 540) (by decide +kernel), rfl⟩
theorem mv_18 : Cond.selects (kN (mO 18)) (mY 18) (mY 18) ∈ lw_good := List.mem_filter.mpr ⟨List.mem_of_getElem? (i := 11) (by decide +kernel), rfl⟩
set_option maxRecDepth 100000 in
theorem mc_19 : Cond.code (mY 19) (mC 19) (mL 19) (mR 19) ∈ lw_good := List.mem_filter.mpr ⟨List.mem_of_getElem? (i := 545) rfl, rfl⟩
theorem mi_19 : Cond.initialized (mY 19).cls ∈ lw_good := List.mem_filter.mpr ⟨List.mem_of_getElem? (i := 35) (by decide +kernel), rfl⟩
theorem ms_19 : Cond.instanceMethod (mY 19) ∈ lw_good := List.mem_filter.mpr ⟨List.mem_of_getElem? (i := 544) (by decide +kernel), rfl⟩
theorem mv_19 : Cond.selects (kN (mO 19)) (mY 19) (mY 19) ∈ lw_good := List.mem_filter.mpr ⟨List.mem_of_getElem? (i := 12) (by decide +kernel), rfl⟩
set_option maxRecDepth 100000 in
theorem mc_20 : Cond.code (mY 20) (mC 20) (mL 20) (mR 20) ∈ lw_good := List.mem_filter.mpr ⟨List.mem_of_getElem? (i := 549) rfl, rfl⟩
theorem mi_20 : Cond.initialized (mY 20).cls ∈ lw_good := List.mem_filter.mpr ⟨List.mem_of_getElem? (i := 35) (by decide +kernel), rfl⟩
theorem ms_20 : Cond.instanceMethod (mY 20) ∈ lw_good := List.mem_filter.mpr ⟨List.mem_of_getElem? (i := 548) (by decide +kernel), rfl⟩
theorem mv_20 : Cond.selects (kN (mO 20)) (mY 20) (mY 20) ∈ lw_good := List.mem_filter.mpr ⟨List.mem_of_getElem? (i := 13) (by decide +kernel), rfl⟩
set_option maxRecDepth 100000 in
theorem mc_21 : Cond.code (mY 21) (mC 21) (mL 21) (mR 21) ∈ lw_good := List.mem_filter.mpr ⟨List.mem_of_getElem? (i := 562) rfl, rfl⟩
theorem mi_21 : Cond.initialized (mY 21).cls ∈ lw_good := List.mem_filter.mpr ⟨List.mem_of_getElem? (i := 35) (by decide +kernel), rfl⟩
theorem ms_21 : Cond.instanceMethod (mY 21) ∈ lw_good := List.mem_filter.mpr ⟨List.mem_of_getElem? (i := 561) (by decide +kernel), rfl⟩
theorem mv_21 : Cond.selects (kN (mO 21)) (mY 21) (mY 21) ∈ lw_good := List.mem_filter.mpr ⟨List.mem_of_getElem? (i := 14) (by decide +kernel), rfl⟩
set_option maxRecDepth 100000 in
theorem mc_22 : Cond.code (mY 22) (mC 22) (mL 22) (mR 22) ∈ lw_good := List.mem_filter.mpr ⟨List.mem_of_getElem? (i := 558) rfl, rfl⟩
theorem mi_22 : Cond.initialized (mY 22).cls ∈ lw_good := List.mem_filter.mpr ⟨List.mem_of_getElem? (i := 35) (by decide +kernel), rfl⟩
theorem ms_22 : Cond.static (mY 22) ∈ lw_good := List.mem_filter.mpr ⟨List.mem_of_getElem? (i := 557) (by decide +kernel), rfl⟩
set_option maxRecDepth 100000 in
theorem mc_23 : Cond.code (mY 23) (mC 23) (mL 23) (mR 23) ∈ lw_good := List.mem_filter.mpr ⟨List.mem_of_getElem? (i := 76) rfl, rfl⟩
theorem mi_23 : Cond.initialized (mY 23).cls ∈ lw_good := List.mem_filter.mpr ⟨List.mem_of_getElem? (i := 34) (by decide +kernel), rfl⟩
theorem ms_23 : Cond.instanceMethod (mY 23) ∈ lw_good := List.mem_filter.mpr ⟨List.mem_of_getElem? (i := 75) (by decide +kernel), rfl⟩
set_option maxRecDepth 100000 in
theorem mc_24 : Cond.code (mY 24) (mC 24) (mL 24) (mR 24) ∈ lw_good := List.mem_filter.mpr ⟨List.mem_of_getElem? (i := 68) rfl, rfl⟩
theorem mi_24 : Cond.initialized (mY 24).cls ∈ lw_good := List.mem_filter.mpr ⟨List.mem_of_getElem? (i := 33) (by decide +kernel), rfl⟩
theorem ms_24 : Cond.instanceMethod (mY 24) ∈ lw_good := List.mem_filter.mpr ⟨List.mem_of_getElem? (i := 67) (by decide +kernel), rfl⟩
set_option maxRecDepth 100000 in
theorem mc_25 : Cond.code (mY 25) (mC 25) (mL 25) (mR 25) ∈ lw_good := List.mem_filter.mpr ⟨List.mem_of_getElem? (i := 404) rfl, rfl⟩
theorem mi_25 : Cond.initialized (mY 25).cls ∈ lw_good := List.mem_filter.mpr ⟨List.mem_of_getElem? (i := 33) (by decide +kernel), rfl⟩
theorem ms_25 : Cond.instanceMethod (mY 25) ∈ lw_good := List.mem_filter.mpr ⟨List.mem_of_getElem? (i := 402) (by decide +kernel), rfl⟩
theorem mv_25 : Cond.selects (kN (mO 25)) (mY 25) (mY 25) ∈ lw_good := List.mem_filter.mpr ⟨List.mem_of_getElem? (i := 403) (by decide +kernel), rfl⟩
set_option maxRecDepth 100000 in
theorem mc_26 : Cond.code (mY 26) (mC 26) (mL 26) (mR 26) ∈ lw_good := List.mem_filter.mpr ⟨List.mem_of_getElem? (i := 400) rfl, rfl⟩
theorem mi_26 : Cond.initialized (mY 26).cls ∈ lw_good := List.mem_filter.mpr ⟨List.mem_of_getElem? (i := 33) (by decide +kernel), rfl⟩
theorem ms_26 : Cond.instanceMethod (mY 26) ∈ lw_good := List.mem_filter.mpr ⟨List.mem_of_getElem? (i := 398) (by decide +kernel), rfl⟩
theorem mv_26 : Cond.selects (kN (mO 26)) (mY 26) (mY 26) ∈ lw_good := List.mem_filter.mpr ⟨List.mem_of_getElem? (i := 399) (by decide +kernel), rfl⟩
set_option maxRecDepth 100000 in
theorem mc_27 : Cond.code (mY 27) (mC 27) (mL 27) (mR 27) ∈ lw_good := List.mem_filter.mpr ⟨List.mem_of_getElem? (i := 409) rfl, rfl⟩
theorem mi_27 : Cond.initialized (mY 27).cls ∈ lw_good := List.mem_filter.mpr ⟨List.mem_of_getElem? (i := 33) (by decide +kernel), rfl⟩
theorem ms_27 : Cond.instanceMethod (mY 27) ∈ lw_good := List.mem_filter.mpr ⟨List.mem_of_getElem? (i := 407) (by decide +kernel), rfl⟩
theorem mv_27 : Cond.selects (kN (mO 27)) (mY 27) (mY 27) ∈ lw_good := List.mem_filter.mpr ⟨List.mem_of_getElem? (i := 408) (by decide +kernel), rfl⟩
set_option maxRecDepth 100000 in
theorem mc_28 : Cond.code (mY 28) (mC 28) (mL 28) (mR 28) ∈ lw_good := List.mem_filter.mpr ⟨List.mem_of_getElem? (i := 418) rfl, rfl⟩
theorem mi_28 : Cond.initialized (mY 28).cls ∈ lw_good := List.mem_filter.mpr ⟨List.mem_of_getElem? (i := 33) (by decide +kernel), rfl⟩
theorem ms_28 : Cond.instanceMethod (mY 28) ∈ lw_good := List.mem_filter.mpr ⟨List.mem_of_getElem? (i := 416) (by decide +kernel), rfl⟩
theorem mv_28 : Cond.selects (kN (mO 28)) (mY 28) (mY 28) ∈ lw_good := List.mem_filter.mpr ⟨List.mem_of_getElem? (i := 417) (by decide +kernel), rfl⟩
set_option maxRecDepth 100000 in
theorem mc_29 : Cond.code (mY 29) (mC 29) (mL 29) (mR 29) ∈ lw_good := List.mem_filter.mpr ⟨List.mem_of_getElem? (i := 426) rfl, rfl⟩
theorem mi_29 : Cond.initialized (mY 29).cls ∈ lw_good := List.mem_filter.mpr ⟨List.mem_of_getElem? (i := 33) (by decide +kernel), rfl⟩
theorem ms_29 : Cond.instanceMethod (mY 29) ∈ lw_good := List.mem_filter.mpr ⟨List.mem_of_getElem? (i := 424) (by decide +kernel), rfl⟩
theorem mv_29 : Cond.selects (kN (mO 29)) (mY 29) (mY 29) ∈ lw_good := List.mem_filter.mpr ⟨List.mem_of_getElem? (i := 425) (by decide +kernel), rfl⟩
set_option maxRecDepth 100000 in
theorem mc_30 : Cond.code (mY 30) (mC 30) (mL 30) (mR 30) ∈ lw_good := List.mem_filter.mpr ⟨List.mem_of_getElem? (i := 434) rfl, rfl⟩
theorem mi_30 : Cond.initialized (mY 30).cls ∈ lw_good := List.mem_filter.mpr ⟨List.mem_of_getElem? (i := 33) (by decide +kernel), rfl⟩
theorem ms_30 : Cond.instanceMethod (mY 30) ∈ lw_good := List.mem_filter.mpr ⟨List.mem_of_getElem? (i := 432) (by decide +kernel), rfl⟩
theorem mv_30 : Cond.selects (kN (mO 30)) (mY 30) (mY 30) ∈ lw_good := List.mem_filter.mpr ⟨List.mem_of_getElem? (i := 433) (by decide +kernel), rfl⟩
set_option maxRecDepth 100000 in
theorem mc_31 : Cond.code (mY 31) (mC 31) (mL 31) (mR 31) ∈ lw_good := List.mem_filter.mpr ⟨List.mem_of_getElem? (i := 254) rfl, rfl⟩
theorem mi_31 : Cond.initialized (mY 31).cls ∈ lw_good := List.mem_filter.mpr ⟨List.mem_of_getElem? (i := 39) (by decide +kernel), rfl⟩
theorem ms_31 : Cond.instanceMethod (mY 31) ∈ lw_good := List.mem_filter.mpr ⟨List.mem_of_getElem? (i := 253) (by decide +kernel), rfl⟩
set_option maxRecDepth 100000 in
theorem mc_32 : Cond.code (mY 32) (mC 32) (mL 32) (mR 32) ∈ lw_good := List.mem_filter.mpr ⟨List.mem_of_getElem? (i := 496) rfl, rfl⟩
theorem mi_32 : Cond.initialized (mY 32).cls ∈ lw_good := List.mem_filter.mpr ⟨List.mem_of_getElem? (i := 42) (by decide +kernel), rfl⟩
theorem ms_32 : Cond.instanceMethod (mY 32) ∈ lw_good := List.mem_filter.mpr ⟨List.mem_of_getElem? (i := 495) (by decide +kernel), rfl⟩
set_option maxRecDepth 100000 in
theorem mc_33 : Cond.code (mY 33) (mC 33) (mL 33) (mR 33) ∈ lw_good := List.mem_filter.mpr ⟨List.mem_of_getElem? (i := 50) rfl, rfl⟩
theorem mi_33 : Cond.initialized (mY 33).cls ∈ lw_good := List.mem_filter.mpr ⟨List.mem_of_getElem? (i := 32) (by decide +kernel), rfl⟩
theorem ms_33 : Cond.instanceMethod (mY 33) ∈ lw_good := List.mem_filter.mpr ⟨List.mem_of_getElem? (i := 49) (by decide +kernel), rfl⟩
set_option maxRecDepth 100000 in
theorem mc_34 : Cond.code (mY 34) (mC 34) (mL 34) (mR 34) ∈ lw_good := List.mem_filter.mpr ⟨List.mem_of_getElem? (i := 250) rfl, rfl⟩
theorem mi_34 : Cond.initialized (mY 34).cls ∈ lw_good := List.mem_filter.mpr ⟨List.mem_of_getElem? (i := 32) (by decide +kernel), rfl⟩
theorem ms_34 : Cond.instanceMethod (mY 34) ∈ lw_good := List.mem_filter.mpr ⟨List.mem_of_getElem? (i := 248) (by decide +kernel), rfl⟩
theorem mv_34 : Cond.selects (kN (mO 34)) (mY 34) (mY 34) ∈ lw_good := List.mem_filter.mpr ⟨List.mem_of_getElem? (i := 249) (by decide +kernel), rfl⟩
set_option maxRecDepth 100000 in
theorem mc_35 : Cond.code (mY 35) (mC 35) (mL 35) (mR 35) ∈ lw_good := List.mem_filter.mpr ⟨List.mem_of_getElem? (i := 280) rfl, rfl⟩
theorem mi_35 : Cond.initialized (mY 35).cls ∈ lw_good := List.mem_filter.mpr ⟨List.mem_of_getElem? (i := 32) (by decide +kernel), rfl⟩
theorem ms_35 : Cond.instanceMethod (mY 35) ∈ lw_good := List.mem_filter.mpr ⟨List.mem_of_getElem? (i := 278) (by decide +kernel), rfl⟩
theorem mv_35 : Cond.selects (kN (mO 35)) (mY 35) (mY 35) ∈ lw_good := List.mem_filter.mpr ⟨List.mem_of_getElem? (i := 279) (by decide +kernel), rfl⟩
set_option maxRecDepth 100000 in
theorem mc_36 : Cond.code (mY 36) (mC 36) (mL 36) (mR 36) ∈ lw_good := List.mem_filter.mpr ⟨List.mem_of_getElem? (i := 318) rfl, rfl⟩
theorem mi_36 : Cond.initialized (mY 36).cls ∈ lw_good := List.mem_filter.mpr ⟨List.mem_of_getElem? (i := 32) (by decide +kernel), rfl⟩
theorem ms_36 : Cond.instanceMethod (mY 36) ∈ lw_good := List.mem_filter.mpr ⟨List.mem_of_getElem? (i := 316) (by decide +kernel), rfl⟩
theorem mv_36 : Cond.selects (kN (mO 36)) (mY 36) (mY 36) ∈ lw_good := List.mem_filter.mpr ⟨List.mem_of_getElem? (i := 317) (by decide +kernel), rfl⟩
set_option maxRecDepth 100000 in
theorem mc_37 : Cond.code (mY 37) (mC 37) (mL 37) (mR 37) ∈ lw_good := List.mem_filter.mpr ⟨List.mem_of_getElem? (i := 370) rfl, rfl⟩
theorem mi_37 : Cond.initialized (mY 37).cls ∈ lw_good := List.mem_filter.mpr ⟨List.mem_of_getElem? (i := 32) (by decide +kernel), rfl⟩
theorem ms_37 : Cond.instanceMethod (mY 37) ∈ lw_good := List.mem_filter.mpr ⟨List.mem_of_getElem? (i := 368) (by decide +kernel), rfl⟩
theorem mv_37 : Cond.selects (kN (mO 37)) (mY 37) (mY 37) ∈ lw_good := List.mem_filter.mpr ⟨List.mem_of_getElem? (i := 369) (by decide +kernel), rfl⟩
set_option maxRecDepth 100000 in
theorem mc_38 : Cond.code (mY 38) (mC 38) (mL 38) (mR 38) ∈ lw_good := List.mem_filter.mpr ⟨List.mem_of_getElem? (i := 381) rfl, rfl⟩
theorem mi_38 : Cond.initialized (mY 38).cls ∈ lw_good := List.mem_filter.mpr ⟨List.mem_of_getElem? (i := 32) (by decide +kernel), rfl⟩
theorem ms_38 : Cond.instanceMethod (mY 38) ∈ lw_good := List.mem_filter.mpr ⟨List.mem_of_getElem? (i := 379) (by decide +kernel), rfl⟩
theorem mv_38 : Cond.selects (kN (mO 38)) (mY 38) (mY 38) ∈ lw_good := List.mem_filter.mpr ⟨List.mem_of_getElem? (i := 380) (by decide +kernel), rfl⟩
set_option maxRecDepth 100000 in
theorem mc_39 : Cond.code (mY 39) (mC 39) (mL 39) (mR 39) ∈ lw_good := List.mem_filter.mpr ⟨List.mem_of_getElem? (i := 392) rfl, rfl⟩
theorem mi_39 : Cond.initialized (mY 39).cls ∈ lw_good := List.mem_filter.mpr ⟨List.mem_of_getElem? (i := 32) (by decide +kernel), rfl⟩
theorem ms_39 : Cond.instanceMethod (mY 39) ∈ lw_good := List.mem_filter.mpr ⟨List.mem_of_getElem? (i := 390) (by decide +kernel), rfl⟩
theorem mv_39 : Cond.selects (kN (mO 39)) (mY 39) (mY 39) ∈ lw_good := List.mem_filter.mpr ⟨List.mem_of_getElem? (i := 391) (by decide +kernel), rfl⟩
set_option maxRecDepth 100000 in
theorem mc_40 : Cond.code (mY 40) (mC 40) (mL 40) (mR 40) ∈ lw_good := List.mem_filter.mpr ⟨List.mem_of_getElem? (i := 396) rfl, rfl⟩
theorem mi_40 : Cond.initialized (mY 40).cls ∈ lw_good := List.mem_filter.mpr ⟨List.mem_of_getElem? (i := 32) (by decide +kernel), rfl⟩
theorem ms_40 : Cond.instanceMethod (mY 40) ∈ lw_good := List.mem_filter.mpr ⟨List.mem_of_getElem? (i := 394) (by decide +kernel), rfl⟩
theorem mv_40 : Cond.selects (kN (mO 40)) (mY 40) (mY 40) ∈ lw_good := List.mem_filter.mpr ⟨List.mem_of_getElem? (i := 395) (by decide +kernel), rfl⟩
set_option maxRecDepth 100000 in
theorem mc_41 : Cond.code (mY 41) (mC 41) (mL 41) (mR 41) ∈ lw_good := List.mem_filter.mpr ⟨List.mem_of_getElem? (i := 413) rfl, rfl⟩
theorem mi_41 : Cond.initialized (mY 41).cls ∈ lw_good := List.mem_filter.mpr ⟨List.mem_of_getElem? (i := 32) (by decide +kernel), rfl⟩
theorem ms_41 : Cond.instanceMethod (mY 41) ∈ lw_good := List.mem_filter.mpr ⟨List.mem_of_getElem? (i := 411) (by decide +kernel), rfl⟩
theorem mv_41 : Cond.selects (kN (mO 41)) (mY 41) (mY 41) ∈ lw_good := List.mem_filter.mpr ⟨List.mem_of_getElem? (i := 412) (by decide +kernel), rfl⟩
set_option maxRecDepth 100000 in
theorem mc_42 : Cond.code (mY 42) (mC 42) (mL 42) (mR 42) ∈ lw_good := List.mem_filter.mpr ⟨List.mem_of_getElem? (i := 422) rfl, rfl⟩
theorem mi_42 : Cond.initialized (mY 42).cls ∈ lw_good := List.mem_filter.mpr ⟨List.mem_of_getElem? (i := 32) (by decide +kernel), rfl⟩
theorem ms_42 : Cond.instanceMethod (mY 42) ∈ lw_good := List.mem_filter.mpr ⟨List.mem_of_getElem? (i := 420) (by decide +kernel), rfl⟩
theorem mv_42 : Cond.selects (kN (mO 42)) (mY 42) (mY 42) ∈ lw_good := List.mem_filter.mpr ⟨List.mem_of_getElem? (i := 421) (by decide +kernel), rfl⟩
set_option maxRecDepth 100000 in
theorem mc_43 : Cond.code (mY 43) (mC 43) (mL 43) (mR 43) ∈ lw_good := List.mem_filter.mpr ⟨List.mem_of_getElem? (i := 430) rfl, rfl⟩
theorem mi_43 : Cond.initialized (mY 43).cls ∈ lw_good := List.mem_filter.mpr ⟨List.mem_of_getElem? (i := 32) (by decide +kernel), rfl⟩
theorem ms_43 : Cond.instanceMethod (mY 43) ∈ lw_good := List.mem_filter.mpr ⟨List.mem_of_getElem? (i := 428) (by decide +kernel), rfl⟩
theorem mv_43 : Cond.selects (kN (mO 43)) (mY 43) (mY 43) ∈ lw_good := List.mem_filter.mpr ⟨List.mem_of_getElem? (i := 429) (by decide +kernel), rfl⟩
set_option maxRecDepth 100000 in
theorem mc_44 : Cond.code (mY 44) (mC 44) (mL 44) (mR 44) ∈ lw_good := List.mem_filter.mpr ⟨List.mem_of_getElem? (i := 446) rfl, rfl⟩
theorem mi_44 : Cond.initialized (mY 44).cls ∈ lw_good := List.mem_filter.mpr ⟨List.mem_of_getElem? (i := 32) (by decide +kernel), rfl⟩
theorem ms_44 : Cond.instanceMethod (mY 44) ∈ lw_good := List.mem_filter.mpr ⟨List.mem_of_getElem? (i := 444) (by decide +kernel), rfl⟩
theorem mv_44 : Cond.selects (kN (mO 44)) (mY 44) (mY 44) ∈ lw_good := List.mem_filter.mpr ⟨List.mem_of_getElem? (i := 445) (by decide +kernel), rfl⟩
set_option maxRecDepth 100000 in
theorem mc_45 : Cond.code (mY 45) (mC 45) (mL 45) (mR 45) ∈ lw_good := List.mem_filter.mpr ⟨List.mem_of_getElem? (i := 456) rfl, rfl⟩
theorem mi_45 : Cond.initialized (mY 45).cls ∈ lw_good := List.mem_filter.mpr ⟨List.mem_of_getElem? (i := 32) (by decide +kernel), rfl⟩
theorem ms_45 : Cond.instanceMethod (mY 45) ∈ lw_good := List.mem_filter.mpr ⟨List.mem_of_getElem? (i := 454) (by decide +kernel), rfl⟩
theorem mv_45 : Cond.selects (kN (mO 45)) (mY 45) (mY 45) ∈ lw_good := List.mem_filter.mpr ⟨List.mem_of_getElem? (i := 455) (by decide +kernel), rfl⟩
set_option maxRecDepth 100000 in
theorem mc_46 : Cond.code (mY 46) (mC 46) (mL 46) (mR 46) ∈ lw_good := List.mem_filter.mpr ⟨List.mem_of_getElem? (i := 460) rfl, rfl⟩
theorem mi_46 : Cond.initialized (mY 46).cls ∈ lw_good := List.mem_filter.mpr ⟨List.mem_of_getElem? (i := 32) (by decide +kernel), rfl⟩
theorem ms_46 : Cond.instanceMethod (mY 46) ∈ lw_good := List.mem_filter.mpr ⟨List.mem_of_getElem? (i := 458) (by decide +kernel), rfl⟩
theorem mv_46 : Cond.selects (kN (mO 46)) (mY 46) (mY 46) ∈ lw_good := List.mem_filter.mpr ⟨List.mem_of_getElem? (i := 459) (by decide +kernel), rfl⟩
set_option maxRecDepth 100000 in
theorem mc_47 : Cond.code (mY 47) (mC 47) (mL 47) (mR 47) ∈ lw_good := List.mem_filter.mpr ⟨List.mem_of_getElem? (i := 464) rfl, rfl⟩
theorem mi_47 : Cond.initialized (mY 47).cls ∈ lw_good := List.mem_filter.mpr ⟨List.mem_of_getElem? (i := 32) (by decide +kernel), rfl⟩
theorem ms_47 : Cond.instanceMethod (mY 47) ∈ lw_good := List.mem_filter.mpr ⟨List.mem_of_getElem? (i := 462) (by decide +kernel), rfl⟩
theorem mv_47 : Cond.selects (kN (mO 47)) (mY 47) (mY 47) ∈ lw_good := List.mem_filter.mpr ⟨List.mem_of_getElem? (i := 463) (by decide +kernel), rfl⟩
set_option maxRecDepth 100000 in
theorem mc_48 : Cond.code (mY 48) (mC 48) (mL 48) (mR 48) ∈ lw_good := List.mem_filter.mpr ⟨List.mem_of_getElem? (i := 468) rfl, rfl⟩
theorem mi_48 : Cond.initialized (mY 48).cls ∈ lw_good := List.mem_filter.mpr ⟨List.mem_of_getElem? (i := 32) (by decide +kernel), rfl⟩
theorem ms_48 : Cond.instanceMethod (mY 48) ∈ lw_good := List.mem_filter.mpr ⟨List.mem_of_getElem? (i := 466) (by decide +kernel), rfl⟩
theorem mv_48 : Cond.selects (kN (mO 48)) (mY 48) (mY 48) ∈ lw_good := List.mem_filter.mpr ⟨List.mem_of_getElem? (i := 467) (by decide +kernel), rfl⟩
set_option maxRecDepth 100000 in
theorem mc_49 : Cond.code (mY 49) (mC 49) (mL 49) (mR 49) ∈ lw_good := List.mem_filter.mpr ⟨List.mem_of_getElem? (i := 476) rfl, rfl⟩
theorem mi_49 : Cond.initialized (mY 49).cls ∈ lw_good := List.mem_filter.mpr ⟨List.mem_of_getElem? (i := 32) (by decide +kernel), rfl⟩
theorem ms_49 : Cond.instanceMethod (mY 49) ∈ lw_good := List.mem_filter.mpr ⟨List.mem_of_getElem? (i := 474) (by decide +kernel), rfl⟩
theorem mv_49 : Cond.selects (kN (mO 49)) (mY 49) (mY 49) ∈ lw_good := List.mem_filter.mpr ⟨List.mem_of_getElem? (i := 475) (by decide +kernel), rfl⟩
set_option maxRecDepth 100000 in
theorem mc_50 : Cond.code (mY 50) (mC 50) (mL 50) (mR 50) ∈ lw_good := List.mem_filter.mpr ⟨List.mem_of_getElem? (i := 492) rfl, rfl⟩
theorem mi_50 : Cond.initialized (mY 50).cls ∈ lw_good := List.mem_filter.mpr ⟨List.mem_of_getElem? (i := 32) (by decide +kernel), rfl⟩
theorem ms_50 : Cond.instanceMethod (mY 50) ∈ lw_good := List.mem_filter.mpr ⟨List.mem_of_getElem? (i := 490) (by decide +kernel), rfl⟩
theorem mv_50 : Cond.selects (kN (mO 50)) (mY 50) (mY 50) ∈ lw_good := List.mem_filter.mpr ⟨List.mem_of_getElem? (i := 491) (by decide +kernel), rfl⟩
set_option maxRecDepth 100000 in
theorem mc_51 : Cond.code (mY 51) (mC 51) (mL 51) (mR 51) ∈ lw_good := List.mem_filter.mpr ⟨List.mem_of_getElem? (i := 514) rfl, rfl⟩
theorem mi_51 : Cond.initialized (mY 51).cls ∈ lw_good := List.mem_filter.mpr ⟨List.mem_of_getElem? (i := 32) (by decide +kernel), rfl⟩
theorem ms_51 : Cond.instanceMethod (mY 51) ∈ lw_good := List.mem_filter.mpr ⟨List.mem_of_getElem? (i := 512) (by decide +kernel), rfl⟩
theorem mv_51 : Cond.selects (kN (mO 51)) (mY 51) (mY 51) ∈ lw_good := List.mem_filter.mpr ⟨List.mem_of_getElem? (i := 513) (by decide +kernel), rfl⟩
set_option maxRecDepth 100000 in
theorem mc_52 : Cond.code (mY 52) (mC 52) (mL 52) (mR 52) ∈ lw_good := List.mem_filter.mpr ⟨List.mem_of_getElem? (i := 573) rfl, rfl⟩
theorem mi_52 : Cond.initialized (mY 52).cls ∈ lw_good := List.mem_filter.mpr ⟨List.mem_of_getElem? (i := 32) (by decide +kernel), rfl⟩
theorem ms_52 : Cond.instanceMethod (mY 52) ∈ lw_good := List.mem_filter.mpr ⟨List.mem_of_getElem? (i := 571) (by decide +kernel), rfl⟩
theorem mv_52 : Cond.selects (kN (mO 52)) (mY 52) (mY 52) ∈ lw_good := List.mem_filter.mpr ⟨List.mem_of_getElem? (i := 572) (by decide +kernel), rfl⟩
set_option maxRecDepth 100000 in
theorem mc_53 : Cond.code (mY 53) (mC 53) (mL 53) (mR 53) ∈ lw_good := List.mem_filter.mpr ⟨List.mem_of_getElem? (i := 577) rfl, rfl⟩
theorem mi_53 : Cond.initialized (mY 53).cls ∈ lw_good := List.mem_filter.mpr ⟨List.mem_of_getElem? (i := 32) (by decide +kernel), rfl⟩
theorem ms_53 : Cond.instanceMethod (mY 53) ∈ lw_good := List.mem_filter.mpr ⟨List.mem_of_getElem? (i := 575) (by decide +kernel), rfl⟩
theorem mv_53 : Cond.selects (kN (mO 53)) (mY 53) (mY 53) ∈ lw_good := List.mem_filter.mpr ⟨List.mem_of_getElem? (i := 576) (by decide +kernel), rfl⟩
set_option maxRecDepth 100000 in
theorem mc_54 : Cond.code (mY 54) (mC 54) (mL 54) (mR 54) ∈ lw_good := List.mem_filter.mpr ⟨List.mem_of_getElem? (i := 629) rfl, rfl⟩
theorem mi_54 : Cond.initialized (mY 54).cls ∈ lw_good := List.mem_filter.mpr ⟨List.mem_of_getElem? (i := 32) (by decide +kernel), rfl⟩
theorem ms_54 : Cond.instanceMethod (mY 54) ∈ lw_good := List.mem_filter.mpr ⟨List.mem_of_getElem? (i := 627) (by decide +kernel), rfl⟩
theorem mv_54 : Cond.selects (kN (mO 54)) (mY 54) (mY 54) ∈ lw_good := List.mem_filter.mpr ⟨List.mem_of_getElem? (i := 628) (by decide +kernel), rfl⟩
set_option maxRecDepth 100000 in
theorem mc_55 : Cond.code (mY 55) (mC 55) (mL 55) (mR 55) ∈ lw_good := List.mem_filter.mpr ⟨List.mem_of_getElem? (i := 634) rfl, rfl⟩
theorem mi_55 : Cond.initialized (mY 55).cls ∈ lw_good := List.mem_filter.mpr ⟨List.mem_of_getElem? (i := 32) (by decide +kernel), rfl⟩
theorem ms_55 : Cond.instanceMethod (mY 55) ∈ lw_good := List.mem_filter.mpr ⟨List.mem_of_getElem? (i := 632) (by decide +kernel), rfl⟩
theorem mv_55 : Cond.selects (kN (mO 55)) (mY 55) (mY 55) ∈ lw_good := List.mem_filter.mpr ⟨List.mem_of_getElem? (i := 633) (by decide +kernel), rfl⟩
set_option maxRecDepth 100000 in
theorem mc_56 : Cond.code (mY 56) (mC 56) (mL 56) (mR 56) ∈ lw_good := List.mem_filter.mpr ⟨List.mem_of_getElem? (i := 639) rfl, rfl⟩
theorem mi_56 : Cond.initialized (mY 56).cls ∈ lw_good := List.mem_filter.mpr ⟨List.mem_of_getElem? (i := 32) (by decide +kernel), rfl⟩
theorem ms_56 : Cond.instanceMethod (mY 56) ∈ lw_good := List.mem_filter.mpr ⟨List.mem_of_getElem? (i := 637) (by decide +kernel), rfl⟩
theorem mv_56 : Cond.selects (kN (mO 56)) (mY 56) (mY 56) ∈ lw_good := List.mem_filter.mpr ⟨List.mem_of_getElem? (i := 638) (by decide +kernel), rfl⟩
set_option maxRecDepth 100000 in
theorem mc_57 : Cond.code (mY 57) (mC 57) (mL 57) (mR 57) ∈ lw_good := List.mem_filter.mpr ⟨List.mem_of_getElem? (i := 643) rfl, rfl⟩
theorem mi_57 : Cond.initialized (mY 57).cls ∈ lw_good := List.mem_filter.mpr ⟨List.mem_of_getElem? (i := 32) (by decide +kernel), rfl⟩
theorem ms_57 : Cond.instanceMethod (mY 57) ∈ lw_good := List.mem_filter.mpr ⟨List.mem_of_getElem? (i := 641) (by decide +kernel), rfl⟩
theorem mv_57 : Cond.selects (kN (mO 57)) (mY 57) (mY 57) ∈ lw_good := List.mem_filter.mpr ⟨List.mem_of_getElem? (i := 642) (by decide +kernel), rfl⟩
set_option maxRecDepth 100000 in
theorem mc_58 : Cond.code (mY 58) (mC 58) (mL 58) (mR 58) ∈ lw_good := List.mem_filter.mpr ⟨List.mem_of_getElem? (i := 647) rfl, rfl⟩
theorem mi_58 : Cond.initialized (mY 58).cls ∈ lw_good := List.mem_filter.mpr ⟨List.mem_of_getElem? (i := 32) (by decide +kernel), rfl⟩
theorem ms_58 : Cond.instanceMethod (mY 58) ∈ lw_good := List.mem_filter.mpr ⟨List.mem_of_getElem? (i := 645) (by decide +kernel), rfl⟩
theorem mv_58 : Cond.selects (kN (mO 58)) (mY 58) (mY 58) ∈ lw_good := List.mem_filter.mpr ⟨List.mem_of_getElem? (i := 646) (by decide +kernel), rfl⟩
set_option maxRecDepth 100000 in
theorem mc_59 : Cond.code (mY 59) (mC 59) (mL 59) (mR 59) ∈ lw_good := List.mem_filter.mpr ⟨List.mem_of_getElem? (i := 651) rfl, rfl⟩
theorem mi_59 : Cond.initialized (mY 59).cls ∈ lw_good := List.mem_filter.mpr ⟨List.mem_of_getElem? (i := 32) (by decide +kernel), rfl⟩
theorem ms_59 : Cond.instanceMethod (mY 59) ∈ lw_good := List.mem_filter.mpr ⟨List.mem_of_getElem? (i := 649) (by decide +kernel), rfl⟩
theorem mv_59 : Cond.selects (kN (mO 59)) (mY 59) (mY 59) ∈ lw_good := List.mem_filter.mpr ⟨List.mem_of_getElem? (i := 650) (by decide +kernel), rfl⟩
set_option maxRecDepth 100000 in
theorem mc_60 : Cond.code (mY 60) (mC 60) (mL 60) (mR 60) ∈ lw_good := List.mem_filter.mpr ⟨List.mem_of_getElem? (i := 655) rfl, rfl⟩
theorem mi_60 : Cond.initialized (mY 60).cls ∈ lw_good := List.mem_filter.mpr ⟨List.mem_of_getElem? (i := 32) (by decide +kernel), rfl⟩
theorem ms_60 : Cond.instanceMethod (mY 60) ∈ lw_good := List.mem_filter.mpr ⟨List.mem_of_getElem? (i := 653) (by decide +kernel), rfl⟩
theorem mv_60 : Cond.selects (kN (mO 60)) (mY 60) (mY 60) ∈ lw_good := List.mem_filter.mpr ⟨List.mem_of_getElem? (i := 654) (by decide +kernel), rfl⟩
set_option maxRecDepth 100000 in
theorem mc_61 : Cond.code (mY 61) (mC 61) (mL 61) (mR 61) ∈ lw_good := List.mem_filter.mpr ⟨List.mem_of_getElem? (i := 321) rfl, rfl⟩
theorem mi_61 : Cond.initialized (mY 61).cls ∈ lw_good := List.mem_filter.mpr ⟨List.mem_of_getElem? (i := 32) (by decide +kernel), rfl⟩
theorem ms_61 : Cond.static (mY 61) ∈ lw_good := List.mem_filter.mpr ⟨List.mem_of_getElem? (i := 320) (by decide +kernel), rfl⟩
set_option maxRecDepth 100000 in
theorem mc_62 : Cond.code (mY 62) (mC 62) (mL 62) (mR 62) ∈ lw_good := List.mem_filter.mpr ⟨List.mem_of_getElem? (i := 324) rfl, rfl⟩
theorem mi_62 : Cond.initialized (mY 62).cls ∈ lw_good := List.mem_filter.mpr ⟨List.mem_of_getElem? (i := 32) (by decide +kernel), rfl⟩
theorem ms_62 : Cond.static (mY 62) ∈ lw_good := List.mem_filter.mpr ⟨List.mem_of_getElem? (i := 323) (by decide +kernel), rfl⟩
set_option maxRecDepth 100000 in
theorem mc_63 : Cond.code (mY 63) (mC 63) (mL 63) (mR 63) ∈ lw_good := List.mem_filter.mpr ⟨List.mem_of_getElem? (i := 377) rfl, rfl⟩
theorem mi_63 : Cond.initialized (mY 63).cls ∈ lw_good := List.mem_filter.mpr ⟨List.mem_of_getElem? (i := 32) (by decide +kernel), rfl⟩
theorem ms_63 : Cond.static (mY 63) ∈ lw_good := List.mem_filter.mpr ⟨List.mem_of_getElem? (i := 376) (by decide +kernel), rfl⟩
set_option maxRecDepth 100000 in
theorem mc_64 : Cond.code (mY 64) (mC 64) (mL 64) (mR 64) ∈ lw_good := List.mem_filter.mpr ⟨List.mem_of_getElem? (i := 284) rfl, rfl⟩
theorem mi_64 : Cond.initialized (mY 64).cls ∈ lw_good := List.mem_filter.mpr ⟨List.mem_of_getElem? (i := 32) (by decide +kernel), rfl⟩
theorem ms_64 : Cond.instanceMethod (mY 64) ∈ lw_good := List.mem_filter.mpr ⟨List.mem_of_getElem? (i := 283) (by decide +kernel), rfl⟩
theorem mv_64 : Cond.selects (kN (mO 64)) (mY 64) (mY 64) ∈ lw_good := List.mem_filter.mpr ⟨List.mem_of_getElem? (i := 0) (by decide +kernel), rfl⟩
set_option maxRecDepth 100000 in
theorem mc_65 : Cond.code (mY 65) (mC 65) (mL 65) (mR 65) ∈ lw_good := List.mem_filter.mpr ⟨List.mem_of_getElem? (i := 374) rfl, rfl⟩
theorem mi_65 : Cond.initialized (mY 65).cls ∈ lw_good := List.mem_filter.mpr ⟨List.mem_of_getElem? (i := 32) (by decide +kernel), rfl⟩
theorem ms_65 : Cond.instanceMethod (mY 65) ∈ lw_good := List.mem_filter.mpr ⟨List.mem_of_getElem? (i := 373) (by decide +kernel), rfl⟩
theorem mv_65 : Cond.selects (kN (mO 65)) (mY 65) (mY 65) ∈ lw_good := List.mem_filter.mpr ⟨List.mem_of_getElem? (i := 1) (by decide +kernel), rfl⟩
set_option maxRecDepth 100000 in
theorem mc_66 : Cond.code (mY 66) (mC 66) (mL 66) (mR 66) ∈ lw_good := List.mem_filter.mpr ⟨List.mem_of_getElem? (i := 385) rfl, rfl⟩
theorem mi_66 : Cond.initialized (mY 66).cls ∈ lw_good := List.mem_filter.mpr ⟨List.mem_of_getElem? (i := 32) (by decide +kernel), rfl⟩
theorem ms_66 : Cond.instanceMethod (mY 66) ∈ lw_good := List.mem_filter.mpr ⟨List.mem_of_getElem? (i := 384) (by decide +kernel), rfl⟩
theorem mv_66 : Cond.selects (kN (mO 66)) (mY 66) (mY 66) ∈ lw_good := List.mem_filter.mpr ⟨List.mem_of_getElem? (i := 2) (by decide +kernel), rfl⟩
set_option maxRecDepth 100000 in
theorem mc_67 : Cond.code (mY 67) (mC 67) (mL 67) (mR 67) ∈ lw_good := List.mem_filter.mpr ⟨List.mem_of_getElem? (i := 450) rfl, rfl⟩
theorem mi_67 : Cond.initialized (mY 67).cls ∈ lw_good := List.mem_filter.mpr ⟨List.mem_of_getElem? (i := 32) (by decide +kernel), rfl⟩
theorem ms_67 : Cond.instanceMethod (mY 67) ∈ lw_good := List.mem_filter.mpr ⟨List.mem_of_getElem? (i := 449) (by decide +kernel), rfl⟩
theorem mv_67 : Cond.selects (kN (mO 67)) (mY 67) (mY 67) ∈ lw_good := List.mem_filter.mpr ⟨List.mem_of_getElem? (i := 5) (by decide +kernel), rfl⟩
set_option maxRecDepth 100000 in
theorem mc_68 : Cond.code (mY 68) (mC 68) (mL 68) (mR 68) ∈ lw_good := List.mem_filter.mpr ⟨List.mem_of_getElem? (i := 659) rfl, rfl⟩
theorem mi_68 : Cond.initialized (mY 68).cls ∈ lw_good := List.mem_filter.mpr ⟨List.mem_of_getElem? (i := 32) (by decide +kernel), rfl⟩
theorem ms_68 : Cond.instanceMethod (mY 68) ∈ lw_good := List.mem_filter.mpr ⟨List.mem_of_getElem? (i := 658) (by decide +kernel), rfl⟩
theorem mv_68 : Cond.selects (kN (mO 68)) (mY 68) (mY 68) ∈ lw_good := List.mem_filter.mpr ⟨List.mem_of_getElem? (i := 18) (by decide +kernel), rfl⟩
set_option maxRecDepth 100000 in
theorem mc_69 : Cond.code (mY 69) (mC 69) (mL 69) (mR 69) ∈ lw_good := List.mem_filter.mpr ⟨List.mem_of_getElem? (i := 663) rfl, rfl⟩
theorem mi_69 : Cond.initialized (mY 69).cls ∈ lw_good := List.mem_filter.mpr ⟨List.mem_of_getElem? (i := 32) (by decide +kernel), rfl⟩
theorem ms_69 : Cond.instanceMethod (mY 69) ∈ lw_good := List.mem_filter.mpr ⟨List.mem_of_getElem? (i := 662) (by decide +kernel), rfl⟩
theorem mv_69 : Cond.selects (kN (mO 69)) (mY 69) (mY 69) ∈ lw_good := List.mem_filter.mpr ⟨List.mem_of_getElem? (i := 19) (by decide +kernel), rfl⟩
set_option maxRecDepth 100000 in
theorem mc_70 : Cond.code (mY 70) (mC 70) (mL 70) (mR 70) ∈ lw_good := List.mem_filter.mpr ⟨List.mem_of_getElem? (i := 442) rfl, rfl⟩
theorem mi_70 : Cond.initialized (mY 70).cls ∈ lw_good := List.mem_filter.mpr ⟨List.mem_of_getElem? (i := 32) (by decide +kernel), rfl⟩
theorem ms_70 : Cond.instanceMethod (mY 70) ∈ lw_good := List.mem_filter.mpr ⟨List.mem_of_getElem? (i := 441) (by decide +kernel), rfl⟩
theorem mv_70 : Cond.selects (kN (mO 70)) (mY 70) (mY 70) ∈ lw_good := List.mem_filter.mpr ⟨List.mem_of_getElem? (i := 4) (by decide +kernel), rfl⟩
set_option maxRecDepth 100000 in
theorem mc_71 : Cond.code (mY 71) (mC 71) (mL 71) (mR 71) ∈ lw_good := List.mem_filter.mpr ⟨List.mem_of_getElem? (i := 438) rfl, rfl⟩
theorem mi_71 : Cond.initialized (mY 71).cls ∈ lw_good := List.mem_filter.mpr ⟨List.mem_of_getElem? (i := 32) (by decide +kernel), rfl⟩
theorem ms_71 : Cond.instanceMethod (mY 71) ∈ lw_good := List.mem_filter.mpr ⟨List.mem_of_getElem? (i := 437) (by decide +kernel), rfl⟩
theorem mv_71 : Cond.selects (kN (mO 71)) (mY 71) (mY 71) ∈ lw_good := List.mem_filter.mpr ⟨List.mem_of_getElem? (i := 3) (by decide +kernel), rfl⟩
set_option maxRecDepth 100000 in
theorem mc_72 : Cond.code (mY 72) (mC 72) (mL 72) (mR 72) ∈ lw_good := List.mem_filter.mpr ⟨List.mem_of_getElem? (i := 388) rfl, rfl⟩
theorem mi_72 : Cond.initialized (mY 72).cls ∈ lw_good := List.mem_filter.mpr ⟨List.mem_of_getElem? (i := 32) (by decide +kernel), rfl⟩
theorem ms_72 : Cond.static (mY 72) ∈ lw_good := List.mem_filter.mpr ⟨List.mem_of_getElem? (i := 387) (by decide +kernel), rfl⟩
set_option maxRecDepth 100000 in
theorem mc_73 : Cond.code (mY 73) (mC 73) (mL 73) (mR 73) ∈ lw_good := List.mem_filter.mpr ⟨List.mem_of_getElem? (i := 472) rfl, rfl⟩
theorem mi_73 : Cond.initialized (mY 73).cls ∈ lw_good := List.mem_filter.mpr ⟨List.mem_of_getElem? (i := 32) (by decide +kernel), rfl⟩
theorem ms_73 : Cond.instanceMethod (mY 73) ∈ lw_good := List.mem_filter.mpr ⟨List.mem_of_getElem? (i := 471) (by decide +kernel), rfl⟩
theorem mv_73 : Cond.selects (kN (mO 73)) (mY 73) (mY 73) ∈ lw_good := List.mem_filter.mpr ⟨List.mem_of_getElem? (i := 6) (by decide +kernel), rfl⟩
set_option maxRecDepth 100000 in
theorem mc_74 : Cond.code (mY 74) (mC 74) (mL 74) (mR 74) ∈ lw_good := List.mem_filter.mpr ⟨List.mem_of_getElem? (i := 480) rfl, rfl⟩
theorem mi_74 : Cond.initialized (mY 74).cls ∈ lw_good := List.mem_filter.mpr ⟨List.mem_of_getElem? (i := 32) (by decide +kernel), rfl⟩
theorem ms_74 : Cond.instanceMethod (mY 74) ∈ lw_good := List.mem_filter.mpr ⟨List.mem_of_getElem? (i := 479) (by decide +kernel), rfl⟩
theorem mv_74 : Cond.selects (kN (mO 74)) (mY 74) (mY 74) ∈ lw_good := List.mem_filter.mpr ⟨List.mem_of_getElem? (i := 7) (by decide +kernel), rfl⟩
set_option maxRecDepth 100000 in
theorem mc_75 : Cond.code (mY 75) (mC 75) (mL 75) (mR 75) ∈ lw_good := List.mem_filter.mpr ⟨List.mem_of_getElem? (i := 484) rfl, rfl⟩
theorem mi_75 : Cond.initialized (mY 75).cls ∈ lw_good := List.mem_filter.mpr ⟨List.mem_of_getElem? (i := 32) (by decide +kernel), rfl⟩
theorem ms_75 : Cond.instanceMethod (mY 75) ∈ lw_good := List.mem_filter.mpr ⟨List.mem_of_getElem? (i := 483) (by decide +kernel), rfl⟩
theorem mv_75 : Cond.selects (kN (mO 75)) (mY 75) (mY 75) ∈ lw_good := List.mem_filter.mpr ⟨List.mem_of_getElem? (i := 8) (by decide +kernel), rfl⟩
set_option maxRecDepth 100000 in
theorem mc_76 : Cond.code (mY 76) (mC 76) (mL 76) (mR 76) ∈ lw_good := List.mem_filter.mpr ⟨List.mem_of_getElem? (i := 488) rfl, rfl⟩
theorem mi_76 : Cond.initialized (mY 76).cls ∈ lw_good := List.mem_filter.mpr ⟨List.mem_of_getElem? (i := 32) (by decide +kernel), rfl⟩
theorem ms_76 : Cond.instanceMethod (mY 76) ∈ lw_good := List.mem_filter.mpr ⟨List.mem_of_getElem? (i := 487) (by decide +kernel), rfl⟩
theorem mv_76 : Cond.selects (kN (mO 76)) (mY 76) (mY 76) ∈ lw_good := List.mem_filter.mpr ⟨List.mem_of_getElem? (i := 9) (by decide +kernel), rfl⟩
set_option maxRecDepth 100000 in
theorem mc_77 : Cond.code (mY 77) (mC 77) (mL 77) (mR 77) ∈ lw_good := List.mem_filter.mpr ⟨List.mem_of_getElem? (i := 518) rfl, rfl⟩
theorem mi_77 : Cond.initialized (mY 77).cls ∈ lw_good := List.mem_filter.mpr ⟨List.mem_of_getElem? (i := 32) (by decide +kernel), rfl⟩
theorem ms_77 : Cond.instanceMethod (mY 77) ∈ lw_good := List.mem_filter.mpr ⟨List.mem_of_getElem? (i := 517) (by decide +kernel), rfl⟩
theorem mv_77 : Cond.selects (kN (mO 77)) (mY 77) (mY 77) ∈ lw_good := List.mem_filter.mpr ⟨List.mem_of_getElem? (i := 10) (by decide +kernel), rfl⟩
set_option maxRecDepth 100000 in
theorem mc_78 : Cond.code (mY 78) (mC 78) (mL 78) (mR 78) ∈ lw_good := List.mem_filter.mpr ⟨List.mem_of_getElem? (i := 668) rfl, rfl⟩
theorem mi_78 : Cond.initialized (mY 78).cls ∈ lw_good := List.mem_filter.mpr ⟨List.mem_of_getElem? (i := 38) (by decide +kernel), rfl⟩
theorem ms_78 : Cond.instanceMethod (mY 78) ∈ lw_good := List.mem_filter.mpr ⟨List.mem_of_getElem? (i := 667) (by decide +kernel), rfl⟩
set_option maxRecDepth 100000 in
theorem mc_79 : Cond.code (mY 79) (mC 79) (mL 79) (mR 79) ∈ lw_good := List.mem_filter.mpr ⟨List.mem_of_getElem? (i := 819) rfl, rfl⟩
theorem mi_79 : Cond.initialized (mY 79).cls ∈ lw_good := List.mem_filter.mpr ⟨List.mem_of_getElem? (i := 38) (by decide +kernel), rfl⟩
theorem ms_79 : Cond.static (mY 79) ∈ lw_good := List.mem_filter.mpr ⟨List.mem_of_getElem? (i := 818) (by decide +kernel), rfl⟩
set_option maxRecDepth 100000 in
theorem mc_80 : Cond.code (mY 80) (mC 80) (mL 80) (mR 80) ∈ lw_good := List.mem_filter.mpr ⟨List.mem_of_getElem? (i := 826) rfl, rfl⟩
theorem mi_80 : Cond.initialized (mY 80).cls ∈ lw_good := List.mem_filter.mpr ⟨List.mem_of_getElem? (i := 38) (by decide +kernel), rfl⟩
theorem ms_80 : Cond.static (mY 80) ∈ lw_good := List.mem_filter.mpr ⟨List.mem_of_getElem? (i := 825) (by decide +kernel), rfl⟩
set_option maxRecDepth 100000 in
theorem mc_81 : Cond.code (mY 81) (mC 81) (mL 81) (mR 81) ∈ lw_good := List.mem_filter.mpr ⟨List.mem_of_getElem? (i := 834) rfl, rfl⟩
theorem mi_81 : Cond.initialized (mY 81).cls ∈ lw_good := List.mem_filter.mpr ⟨List.mem_of_getElem? (i := 38) (by decide +kernel), rfl⟩
theorem ms_81 : Cond.instanceMethod (mY 81) ∈ lw_good := List.mem_filter.mpr ⟨List.mem_of_getElem? (i := 833) (by decide +kernel), rfl⟩
theorem mv_81 : Cond.selects (kN (mO 81)) (mY 81) (mY 81) ∈ lw_good := List.mem_filter.mpr ⟨List.mem_of_getElem? (i := 20) (by decide +kernel), rfl⟩
set_option maxRecDepth 100000 in
theorem mc_82 : Cond.code (mY 82) (mC 82) (mL 82) (mR 82) ∈ lw_good := List.mem_filter.mpr ⟨List.mem_of_getElem? (i := 842) rfl, rfl⟩
theorem mi_82 : Cond.initialized (mY 82).cls ∈ lw_good := List.mem_filter.mpr ⟨List.mem_of_getElem? (i := 38) (by decide +kernel), rfl⟩
theorem ms_82 : Cond.instanceMethod (mY 82) ∈ lw_good := List.mem_filter.mpr ⟨List.mem_of_getElem? (i := 841) (by decide +kernel), rfl⟩
theorem mv_82 : Cond.selects (kN (mO 82)) (mY 82) (mY 82) ∈ lw_good := List.mem_filter.mpr ⟨List.mem_of_getElem? (i := 21) (by decide +kernel), rfl⟩
set_option maxRecDepth 100000 in
theorem mc_83 : Cond.code (mY 83) (mC 83) (mL 83) (mR 83) ∈ lw_good := List.mem_filter.mpr ⟨List.mem_of_getElem? (i := 812) rfl, rfl⟩
theorem mi_83 : Cond.initialized (mY 83).cls ∈ lw_good := List.mem_filter.mpr ⟨List.mem_of_getElem? (i := 38) (by decide +kernel), rfl⟩
theorem ms_83 : Cond.instanceMethod (mY 83) ∈ lw_good := List.mem_filter.mpr ⟨List.mem_of_getElem? (i := 810) (by decide +kernel), rfl⟩
theorem mv_83 : Cond.selects (kN (mO 83)) (mY 83) (mY 83) ∈ lw_good := List.mem_filter.mpr ⟨List.mem_of_getElem? (i := 811) (by decide +kernel), rfl⟩
set_option maxRecDepth 100000 in
theorem mc_84 : Cond.code (mY 84) (mC 84) (mL 84) (mR 84) ∈ lw_good := List.mem_filter.mpr ⟨List.mem_of_getElem? (i := 816) rfl, rfl⟩
theorem mi_84 : Cond.initialized (mY 84).cls ∈ lw_good := List.mem_filter.mpr ⟨List.mem_of_getElem? (i := 38) (by decide +kernel), rfl⟩
theorem ms_84 : Cond.instanceMethod (mY 84) ∈ lw_good := List.mem_filter.mpr ⟨List.mem_of_getElem? (i := 814) (by decide +kernel), rfl⟩
theorem mv_84 : Cond.selects (kN (mO 84)) (mY 84) (mY 84) ∈ lw_good := List.mem_filter.mpr ⟨List.mem_of_getElem? (i := 815) (by decide +kernel), rfl⟩
set_option maxRecDepth 100000 in
theorem mc_85 : Cond.code (mY 85) (mC 85) (mL 85) (mR 85) ∈ lw_good := List.mem_filter.mpr ⟨List.mem_of_getElem? (i := 823) rfl, rfl⟩
theorem mi_85 : Cond.initialized (mY 85).cls ∈ lw_good := List.mem_filter.mpr ⟨List.mem_of_getElem? (i := 38) (by decide +kernel), rfl⟩
theorem ms_85 : Cond.instanceMethod (mY 85) ∈ lw_good := List.mem_filter.mpr ⟨List.mem_of_getElem? (i := 821) (by decide +kernel), rfl⟩
theorem mv_85 : Cond.selects (kN (mO 85)) (mY 85) (mY 85) ∈ lw_good := List.mem_filter.mpr ⟨List.mem_of_getElem? (i := 822) (by decide +kernel), rfl⟩
set_option maxRecDepth 100000 in
theorem mc_86 : Cond.code (mY 86) (mC 86) (mL 86) (mR 86) ∈ lw_good := List.mem_filter.mpr ⟨List.mem_of_getElem? (i := 830) rfl, rfl⟩
theorem mi_86 : Cond.initialized (mY 86).cls ∈ lw_good := List.mem_filter.mpr ⟨List.mem_of_getElem? (i := 38) (by decide +kernel), rfl⟩
theorem ms_86 : Cond.instanceMethod (mY 86) ∈ lw_good := List.mem_filter.mpr ⟨List.mem_of_getElem? (i := 828) (by decide +kernel), rfl⟩
theorem mv_86 : Cond.selects (kN (mO 86)) (mY 86) (mY 86) ∈ lw_good := List.mem_filter.mpr ⟨List.mem_of_getElem? (i := 829) (by decide +kernel), rfl⟩
set_option maxRecDepth 100000 in
theorem mc_87 : Cond.code (mY 87) (mC 87) (mL 87) (mR 87) ∈ lw_good := List.mem_filter.mpr ⟨List.mem_of_getElem? (i := 846) rfl, rfl⟩
theorem mi_87 : Cond.initialized (mY 87).cls ∈ lw_good := List.mem_filter.mpr ⟨List.mem_of_getElem? (i := 38) (by decide +kernel), rfl⟩
theorem ms_87 : Cond.instanceMethod (mY 87) ∈ lw_good := List.mem_filter.mpr ⟨List.mem_of_getElem? (i := 845) (by decide +kernel), rfl⟩
theorem mv_87 : Cond.selects (kN (mO 87)) (mY 87) (mY 87) ∈ lw_good := List.mem_filter.mpr ⟨List.mem_of_getElem? (i := 22) (by decide +kernel), rfl⟩
set_option maxRecDepth 100000 in
theorem mc_88 : Cond.code (mY 88) (mC 88) (mL 88) (mR 88) ∈ lw_good := List.mem_filter.mpr ⟨List.mem_of_getElem? (i := 838) rfl, rfl⟩
theorem mi_88 : Cond.initialized (mY 88).cls ∈ lw_good := List.mem_filter.mpr ⟨List.mem_of_getElem? (i := 38) (by decide +kernel), rfl⟩
theorem ms_88 : Cond.instanceMethod (mY 88) ∈ lw_good := List.mem_filter.mpr ⟨List.mem_of_getElem? (i := 836) (by decide +kernel), rfl⟩
theorem mv_88 : Cond.selects (kN (mO 88)) (mY 88) (mY 88) ∈ lw_good := List.mem_filter.mpr ⟨List.mem_of_getElem? (i := 837) (by decide +kernel), rfl⟩
set_option maxRecDepth 100000 in
theorem mc_89 : Cond.code (mY 89) (mC 89) (mL 89) (mR 89) ∈ lw_good := List.mem_filter.mpr ⟨List.mem_of_getElem? (i := 850) rfl, rfl⟩
theorem mi_89 : Cond.initialized (mY 89).cls ∈ lw_good := List.mem_filter.mpr ⟨List.mem_of_getElem? (i := 38) (by decide +kernel), rfl⟩
theorem ms_89 : Cond.instanceMethod (mY 89) ∈ lw_good := List.mem_filter.mpr ⟨List.mem_of_getElem? (i := 848) (by decide +kernel), rfl⟩
theorem mv_89 : Cond.selects (kN (mO 89)) (mY 89) (mY 89) ∈ lw_good := List.mem_filter.mpr ⟨List.mem_of_getElem? (i := 849) (by decide +kernel), rfl⟩
set_option maxRecDepth 100000 in
theorem mc_90 : Cond.code (mY 90) (mC 90) (mL 90) (mR 90) ∈ lw_good := List.mem_filter.mpr ⟨List.mem_of_getElem? (i := 854) rfl, rfl⟩
theorem mi_90 : Cond.initialized (mY 90).cls ∈ lw_good := List.mem_filter.mpr ⟨List.mem_of_getElem? (i := 38) (by decide +kernel), rfl⟩
theorem ms_90 : Cond.instanceMethod (mY 90) ∈ lw_good := List.mem_filter.mpr ⟨List.mem_of_getElem? (i := 852) (by decide +kernel), rfl⟩
theorem mv_90 : Cond.selects (kN (mO 90)) (mY 90) (mY 90) ∈ lw_good := List.mem_filter.mpr ⟨List.mem_of_getElem? (i := 853) (by decide +kernel), rfl⟩
set_option maxRecDepth 100000 in
theorem mc_91 : Cond.code (mY 91) (mC 91) (mL 91) (mR 91) ∈ lw_good := List.mem_filter.mpr ⟨List.mem_of_getElem? (i := 859) rfl, rfl⟩
theorem mi_91 : Cond.initialized (mY 91).cls ∈ lw_good := List.mem_filter.mpr ⟨List.mem_of_getElem? (i := 38) (by decide +kernel), rfl⟩
theorem ms_91 : Cond.instanceMethod (mY 91) ∈ lw_good := List.mem_filter.mpr ⟨List.mem_of_getElem? (i := 857) (by decide +kernel), rfl⟩
theorem mv_91 : Cond.selects (kN (mO 91)) (mY 91) (mY 91) ∈ lw_good := List.mem_filter.mpr ⟨List.mem_of_getElem? (i := 858) (by decide +kernel), rfl⟩
set_option maxRecDepth 100000 in
theorem mc_92 : Cond.code (mY 92) (mC 92) (mL 92) (mR 92) ∈ lw_good := List.mem_filter.mpr ⟨List.mem_of_getElem? (i := 863) rfl, rfl⟩
theorem mi_92 : Cond.initialized (mY 92).cls ∈ lw_good := List.mem_filter.mpr ⟨List.mem_of_getElem? (i := 38) (by decide +kernel), rfl⟩
theorem ms_92 : Cond.instanceMethod (mY 92) ∈ lw_good := List.mem_filter.mpr ⟨List.mem_of_getElem? (i := 861) (by decide +kernel), rfl⟩
theorem mv_92 : Cond.selects (kN (mO 92)) (mY 92) (mY 92) ∈ lw_good := List.mem_filter.mpr ⟨List.mem_of_getElem? (i := 862) (by decide +kernel), rfl⟩
set_option maxRecDepth 100000 in
theorem mc_93 : Cond.code (mY 93) (mC 93) (mL 93) (mR 93) ∈ lw_good := List.mem_filter.mpr ⟨List.mem_of_getElem? (i := 875) rfl, rfl⟩
theorem mi_93 : Cond.initialized (mY 93).cls ∈ lw_good := List.mem_filter.mpr ⟨List.mem_of_getElem? (i := 38) (by decide +kernel), rfl⟩
theorem ms_93 : Cond.instanceMethod (mY 93) ∈ lw_good := List.mem_filter.mpr ⟨List.mem_of_getElem? (i := 874) (by decide +kernel), rfl⟩
theorem mv_93 : Cond.selects (kN (mO 93)) (mY 93) (mY 93) ∈ lw_good := List.mem_filter.mpr ⟨List.mem_of_getElem? (i := 24) (by decide +kernel), rfl⟩
set_option maxRecDepth 100000 in
theorem mc_94 : Cond.code (mY 94) (mC 94) (mL 94) (mR 94) ∈ lw_good := List.mem_filter.mpr ⟨List.mem_of_getElem? (i := 880) rfl, rfl⟩
theorem mi_94 : Cond.initialized (mY 94).cls ∈ lw_good := List.mem_filter.mpr ⟨List.mem_of_getElem? (i := 38) (by decide +kernel), rfl⟩
theorem ms_94 : Cond.instanceMethod (mY 94) ∈ lw_good := List.mem_filter.mpr ⟨List.mem_of_getElem? (i := 879) (by decide +kernel), rfl⟩
theorem mv_94 : Cond.selects (kN (mO 94)) (mY 94) (mY 94) ∈ lw_good := List.mem_filter.mpr ⟨List.mem_of_getElem? (i := 25) (by decide +kernel), rfl⟩
set_option maxRecDepth 100000 in
theorem mc_95 : Cond.code (mY 95) (mC 95) (mL 95) (mR 95) ∈ lw_good := List.mem_filter.mpr ⟨List.mem_of_getElem? (i := 871) rfl, rfl⟩
theorem mi_95 : Cond.initialized (mY 95).cls ∈ lw_good := List.mem_filter.mpr ⟨List.mem_of_getElem? (i := 38) (by decide +kernel), rfl⟩
theorem ms_95 : Cond.instanceMethod (mY 95) ∈ lw_good := List.mem_filter.mpr ⟨List.mem_of_getElem? (i := 870) (by decide +kernel), rfl⟩
theorem mv_95 : Cond.selects (kN (mO 95)) (mY 95) (mY 95) ∈ lw_good := List.mem_filter.mpr ⟨List.mem_of_getElem? (i := 23) (by decide +kernel), rfl⟩
set_option maxRecDepth 100000 in
theorem mc_96 : Cond.code (mY 96) (mC 96) (mL 96) (mR 96) ∈ lw_good := List.mem_filter.mpr ⟨List.mem_of_getElem? (i := 867) rfl, rfl⟩
theorem mi_96 : Cond.initialized (mY 96).cls ∈ lw_good := List.mem_filter.mpr ⟨List.mem_of_getElem? (i := 38) (by decide +kernel), rfl⟩
theorem ms_96 : Cond.instanceMethod (mY 96) ∈ lw_good := List.mem_filter.mpr ⟨List.mem_of_getElem? (i := 865) (by decide +kernel), rfl⟩
theorem mv_96 : Cond.selects (kN (mO 96)) (mY 96) (mY 96) ∈ lw_good := List.mem_filter.mpr ⟨List.mem_of_getElem? (i := 866) (by decide +kernel), rfl⟩
set_option maxRecDepth 100000 in
theorem mc_97 : Cond.code (mY 97) (mC 97) (mL 97) (mR 97) ∈ lw_good := List.mem_filter.mpr ⟨List.mem_of_getElem? (i := 884) rfl, rfl⟩
theorem mi_97 : Cond.initialized (mY 97).cls ∈ lw_good := List.mem_filter.mpr ⟨List.mem_of_getElem? (i := 38) (by decide +kernel), rfl⟩
theorem ms_97 : Cond.instanceMethod (mY 97) ∈ lw_good := List.mem_filter.mpr ⟨List.mem_of_getElem? (i := 882) (by decide +kernel), rfl⟩
theorem mv_97 : Cond.selects (kN (mO 97)) (mY 97) (mY 97) ∈ lw_good := List.mem_filter.mpr ⟨List.mem_of_getElem? (i := 883) (by decide +kernel), rfl⟩
set_option maxRecDepth 100000 in
theorem mc_98 : Cond.code (mY 98) (mC 98) (mL 98) (mR 98) ∈ lw_good := List.mem_filter.mpr ⟨List.mem_of_getElem? (i := 889) rfl, rfl⟩
theorem mi_98 : Cond.initialized (mY 98).cls ∈ lw_good := List.mem_filter.mpr ⟨List.mem_of_getElem? (i := 38) (by decide +kernel), rfl⟩
theorem ms_98 : Cond.instanceMethod (mY 98) ∈ lw_good := List.mem_filter.mpr ⟨List.mem_of_getElem? (i := 887) (by decide +kernel), rfl⟩
theorem mv_98 : Cond.selects (kN (mO 98)) (mY 98) (mY 98) ∈ lw_good := List.mem_filter.mpr ⟨List.mem_of_getElem? (i := 888) (by decide +kernel), rfl⟩
set_option maxRecDepth 100000 in
theorem mc_99 : Cond.code (mY 99) (mC 99) (mL 99) (mR 99) ∈ lw_good := List.mem_filter.mpr ⟨List.mem_of_getElem? (i := 893) rfl, rfl⟩
theorem mi_99 : Cond.initialized (mY 99).cls ∈ lw_good := List.mem_filter.mpr ⟨List.mem_of_getElem? (i := 38) (by decide +kernel), rfl⟩
theorem ms_99 : Cond.instanceMethod (mY 99) ∈ lw_good := List.mem_filter.mpr ⟨List.mem_of_getElem? (i := 891) (by decide +kernel), rfl⟩
theorem mv_99 : Cond.selects (kN (mO 99)) (mY 99) (mY 99) ∈ lw_good := List.mem_filter.mpr ⟨List.mem_of_getElem? (i := 892) (by decide +kernel), rfl⟩
set_option maxRecDepth 100000 in
theorem mc_100 : Cond.code (mY 100) (mC 100) (mL 100) (mR 100) ∈ lw_good := List.mem_filter.mpr ⟨List.mem_of_getElem? (i := 897) rfl, rfl⟩
theorem mi_100 : Cond.initialized (mY 100).cls ∈ lw_good := List.mem_filter.mpr ⟨List.mem_of_getElem? (i := 38) (by decide +kernel), rfl⟩
theorem ms_100 : Cond.instanceMethod (mY 100) ∈ lw_good := List.mem_filter.mpr ⟨List.mem_of_getElem? (i := 895) (by decide +kernel), rfl⟩
theorem mv_100 : Cond.selects (kN (mO 100)) (mY 100) (mY 100) ∈ lw_good := List.mem_filter.mpr ⟨List.mem_of_getElem? (i := 896) (by decide +kernel), rfl⟩
set_option maxRecDepth 100000 in
theorem mc_101 : Cond.code (mY 101) (mC 101) (mL 101) (mR 101) ∈ lw_good := List.mem_filter.mpr ⟨List.mem_of_getElem? (i := 901) rfl, rfl⟩
theorem mi_101 : Cond.initialized (mY 101).cls ∈ lw_good := List.mem_filter.mpr ⟨List.mem_of_getElem? (i := 38) (by decide +kernel), rfl⟩
theorem ms_101 : Cond.instanceMethod (mY 101) ∈ lw_good := List.mem_filter.mpr ⟨List.mem_of_getElem? (i := 899) (by decide +kernel), rfl⟩
theorem mv_101 : Cond.selects (kN (mO 101)) (mY 101) (mY 101) ∈ lw_good := List.mem_filter.mpr ⟨List.mem_of_getElem? (i := 900) (by decide +kernel), rfl⟩
set_option maxRecDepth 100000 in
theorem mc_102 : Cond.code (mY 102) (mC 102) (mL 102) (mR 102) ∈ lw_good := List.mem_filter.mpr ⟨List.mem_of_getElem? (i := 905) rfl, rfl⟩
theorem mi_102 : Cond.initialized (mY 102).cls ∈ lw_good := List.mem_filter.mpr ⟨List.mem_of_getElem? (i := 38) (by decide +kernel), rfl⟩
theorem ms_102 : Cond.instanceMethod (mY 102) ∈ lw_good := List.mem_filter.mpr ⟨List.mem_of_getElem? (i := 903) (by decide +kernel), rfl⟩
theorem mv_102 : Cond.selects (kN (mO 102)) (mY 102) (mY 102) ∈ lw_good := List.mem_filter.mpr ⟨List.mem_of_getElem? (i := 904) (by decide +kernel), rfl⟩
set_option maxRecDepth 100000 in
theorem mc_103 : Cond.code (mY 103) (mC 103) (mL 103) (mR 103) ∈ lw_good := List.mem_filter.mpr ⟨List.mem_of_getElem? (i := 909) rfl, rfl⟩
theorem mi_103 : Cond.initialized (mY 103).cls ∈ lw_good := List.mem_filter.mpr ⟨List.mem_of_getElem? (i := 38) (by decide +kernel), rfl⟩
theorem ms_103 : Cond.instanceMethod (mY 103) ∈ lw_good := List.mem_filter.mpr ⟨List.mem_of_getElem? (i := 908) (by decide +kernel), rfl⟩
theorem mv_103 : Cond.selects (kN (mO 103)) (mY 103) (mY 103) ∈ lw_good := List.mem_filter.mpr ⟨List.mem_of_getElem? (i := 26) (by decide +kernel), rfl⟩
set_option maxRecDepth 100000 in
theorem mc_104 : Cond.code (mY 104) (mC 104) (mL 104) (mR 104) ∈ lw_good := List.mem_filter.mpr ⟨List.mem_of_getElem? (i := 913) rfl, rfl⟩
theorem mi_104 : Cond.initialized (mY 104).cls ∈ lw_good := List.mem_filter.mpr ⟨List.mem_of_getElem? (i := 38) (by decide +kernel), rfl⟩
theorem ms_104 : Cond.instanceMethod (mY 104) ∈ lw_good := List.mem_filter.mpr ⟨List.mem_of_getElem? (i := 911) (by decide +kernel), rfl⟩
theorem mv_104 : Cond.selects (kN (mO 104)) (mY 104) (mY 104) ∈ lw_good := List.mem_filter.mpr ⟨List.mem_of_getElem? (i := 912) (by decide +kernel), rfl⟩
set_option maxRecDepth 100000 in
theorem mc_105 : Cond.code (mY 105) (mC 105) (mL 105) (mR 105) ∈ lw_good := List.mem_filter.mpr ⟨List.mem_of_getElem? (i := 921) rfl, rfl⟩
theorem mi_105 : Cond.initialized (mY 105).cls ∈ lw_good := List.mem_filter.mpr ⟨List.mem_of_getElem? (i := 38) (by decide +kernel), rfl⟩
theorem ms_105 : Cond.instanceMethod (mY 105) ∈ lw_good := List.mem_filter.mpr ⟨List.mem_of_getElem? (i := 920) (by decide +kernel), rfl⟩
theorem mv_105 : Cond.selects (kN (mO 105)) (mY 105) (mY 105) ∈ lw_good := List.mem_filter.mpr ⟨List.mem_of_getElem? (i := 27) (by decide +kernel), rfl⟩
set_option maxRecDepth 100000 in
theorem mc_106 : Cond.code (mY 106) (mC 106) (mL 106) (mR 106) ∈ lw_good := List.mem_filter.mpr ⟨List.mem_of_getElem? (i := 925) rfl, rfl⟩
theorem mi_106 : Cond.initialized (mY 106).cls ∈ lw_good := List.mem_filter.mpr ⟨List.mem_of_getElem? (i := 38) (by decide +kernel), rfl⟩
theorem ms_106 : Cond.instanceMethod (mY 106) ∈ lw_good := List.mem_filter.mpr ⟨List.mem_of_getElem? (i := 924) (by decide +kernel), rfl⟩
theorem mv_106 : Cond.selects (kN (mO 106)) (mY 106) (mY 106) ∈ lw_good := List.mem_filter.mpr ⟨List.mem_of_getElem? (i := 28) (by decide +kernel), rfl⟩
set_option maxRecDepth 100000 in
theorem mc_107 : Cond.code (mY 107) (mC 107) (mL 107) (mR 107) ∈ lw_good := List.mem_filter.mpr ⟨List.mem_of_getElem? (i := 917) rfl, rfl⟩
theorem mi_107 : Cond.initialized (mY 107).cls ∈ lw_good := List.mem_filter.mpr ⟨List.mem_of_getElem? (i := 38) (by decide +kernel), rfl⟩
theorem ms_107 : Cond.instanceMethod (mY 107) ∈ lw_good := List.mem_filter.mpr ⟨List.mem_of_getElem? (i := 915) (by decide +kernel), rfl⟩
theorem mv_107 : Cond.selects (kN (mO 107)) (mY 107) (mY 107) ∈ lw_good := List.mem_filter.mpr ⟨List.mem_of_getElem? (i := 916) (by decide +kernel), rfl⟩
set_option maxRecDepth 100000 in
theorem mc_108 : Cond.code (mY 108) (mC 108) (mL 108) (mR 108) ∈ lw_good := List.mem_filter.mpr ⟨List.mem_of_getElem? (i := 929) rfl, rfl⟩
theorem mi_108 : Cond.initialized (mY 108).cls ∈ lw_good := List.mem_filter.mpr ⟨List.mem_of_getElem? (i := 38) (by decide +kernel), rfl⟩
theorem ms_108 : Cond.instanceMethod (mY 108) ∈ lw_good := List.mem_filter.mpr ⟨List.mem_of_getElem? (i := 927) (by decide +kernel), rfl⟩
theorem mv_108 : Cond.selects (kN (mO 108)) (mY 108) (mY 108) ∈ lw_good := List.mem_filter.mpr ⟨List.mem_of_getElem? (i := 928) (by decide +kernel), rfl⟩
set_option maxRecDepth 100000 in
theorem mc_109 : Cond.code (mY 109) (mC 109) (mL 109) (mR 109) ∈ lw_good := List.mem_filter.mpr ⟨List.mem_of_getElem? (i := 933) rfl, rfl⟩
theorem mi_109 : Cond.initialized (mY 109).cls ∈ lw_good := List.mem_filter.mpr ⟨List.mem_of_getElem? (i := 38) (by decide +kernel), rfl⟩
theorem ms_109 : Cond.instanceMethod (mY 109) ∈ lw_good := List.mem_filter.mpr ⟨List.mem_of_getElem? (i := 931) (by decide +kernel), rfl⟩
theorem mv_109 : Cond.selects (kN (mO 109)) (mY 109) (mY 109) ∈ lw_good := List.mem_filter.mpr ⟨List.mem_of_getElem? (i := 932) (by decide +kernel), rfl⟩
set_option maxRecDepth 100000 in
theorem mc_110 : Cond.code (mY 110) (mC 110) (mL 110) (mR 110) ∈ lw_good := List.mem_filter.mpr ⟨List.mem_of_getElem? (i := 942) rfl, rfl⟩
theorem mi_110 : Cond.initialized (mY 110).cls ∈ lw_good := List.mem_filter.mpr ⟨List.mem_of_getElem? (i := 38) (by decide +kernel), rfl⟩
theorem ms_110 : Cond.instanceMethod (mY 110) ∈ lw_good := List.mem_filter.mpr ⟨List.mem_of_getElem? (i := 941) (by decide +kernel), rfl⟩
theorem mv_110 : Cond.selects (kN (mO 110)) (mY 110) (mY 110) ∈ lw_good := List.mem_filter.mpr ⟨List.mem_of_getElem? (i := 29) (by decide +kernel), rfl⟩
set_option maxRecDepth 100000 in
theorem mc_111 : Cond.code (mY 111) (mC 111) (mL 111) (mR 111) ∈ lw_good := List.mem_filter.mpr ⟨List.mem_of_getElem? (i := 938) rfl, rfl⟩
theorem mi_111 : Cond.initialized (mY 111).cls ∈ lw_good := List.mem_filter.mpr ⟨List.mem_of_getElem? (i := 38) (by decide +kernel), rfl⟩
theorem ms_111 : Cond.instanceMethod (mY 111) ∈ lw_good := List.mem_filter.mpr ⟨List.mem_of_getElem? (i := 936) (by decide +kernel), rfl⟩
theorem mv_111 : Cond.selects (kN (mO 111)) (mY 111) (mY 111) ∈ lw_good := List.mem_filter.mpr ⟨List.mem_of_getElem? (i := 937) (by decide +kernel), rfl⟩
set_option maxRecDepth 100000 in
theorem mc_112 : Cond.code (mY 112) (mC 112) (mL 112) (mR 112) ∈ lw_good := List.mem_filter.mpr ⟨List.mem_of_getElem? (i := 946) rfl, rfl⟩
theorem mi_112 : Cond.initialized (mY 112).cls ∈ lw_good := List.mem_filter.mpr ⟨List.mem_of_getElem? (i := 38) (by decide +kernel), rfl⟩
theorem ms_112 : Cond.instanceMethod (mY 112) ∈ lw_good := List.mem_filter.mpr ⟨List.mem_of_getElem? (i := 944) (by decide +kernel), rfl⟩
theorem mv_112 : Cond.selects (kN (mO 112)) (mY 112) (mY 112) ∈ lw_good := List.mem_filter.mpr ⟨List.mem_of_getElem? (i := 945) (by decide +kernel), rfl⟩
set_option maxRecDepth 100000 in
theorem mc_113 : Cond.code (mY 113) (mC 113) (mL 113) (mR 113) ∈ lw_good := List.mem_filter.mpr ⟨List.mem_of_getElem? (i := 951) rfl, rfl⟩
theorem mi_113 : Cond.initialized (mY 113).cls ∈ lw_good := List.mem_filter.mpr ⟨List.mem_of_getElem? (i := 38) (by decide +kernel), rfl⟩
theorem ms_113 : Cond.instanceMethod (mY 113) ∈ lw_good := List.mem_filter.mpr ⟨List.mem_of_getElem? (i := 949) (by decide +kernel), rfl⟩
theorem mv_113 : Cond.selects (kN (mO 113)) (mY 113) (mY 113) ∈ lw_good := List.mem_filter.mpr ⟨List.mem_of_getElem? (i := 950) (by decide +kernel), rfl⟩
set_option maxRecDepth 100000 in
theorem mc_114 : Cond.code (mY 114) (mC 114) (mL 114) (mR 114) ∈ lw_good := List.mem_filter.mpr ⟨List.mem_of_getElem? (i := 955) rfl, rfl⟩
theorem mi_114 : Cond.initialized (mY 114).cls ∈ lw_good := List.mem_filter.mpr ⟨List.mem_of_getElem? (i := 38) (by decide +kernel), rfl⟩
theorem ms_114 : Cond.instanceMethod (mY 114) ∈ lw_good := List.mem_filter.mpr ⟨List.mem_of_getElem? (i := 953) (by decide +kernel), rfl⟩
theorem mv_114 : Cond.selects (kN (mO 114)) (mY 114) (mY 114) ∈ lw_good := List.mem_filter.mpr ⟨List.mem_of_getElem? (i := 954) (by decide +kernel), rfl⟩
set_option maxRecDepth 100000 in
theorem mc_115 : Cond.code (mY 115) (mC 115) (mL 115) (mR 115) ∈ lw_good := List.mem_filter.mpr ⟨List.mem_of_getElem? (i := 959) rfl, rfl⟩
theorem mi_115 : Cond.initialized (mY 115).cls ∈ lw_good := List.mem_filter.mpr ⟨List.mem_of_getElem? (i := 38) (by decide +kernel), rfl⟩
theorem ms_115 : Cond.instanceMethod (mY 115) ∈ lw_good := List.mem_filter.mpr ⟨List.mem_of_getElem? (i := 957) (by decide +kernel), rfl⟩
theorem mv_115 : Cond.selects (kN (mO 115)) (mY 115) (mY 115) ∈ lw_good := List.mem_filter.mpr ⟨List.mem_of_getElem? (i := 958) (by decide +kernel), rfl⟩
set_option maxRecDepth 100000 in
theorem mc_116 : Cond.code (mY 116) (mC 116) (mL 116) (mR 116) ∈ lw_good := List.mem_filter.mpr ⟨List.mem_of_getElem? (i := 963) rfl, rfl⟩
theorem mi_116 : Cond.initialized (mY 116).cls ∈ lw_good := List.mem_filter.mpr ⟨List.mem_of_getElem? (i := 38) (by decide +kernel), rfl⟩
theorem ms_116 : Cond.instanceMethod (mY 116) ∈ lw_good := List.mem_filter.mpr ⟨List.mem_of_getElem? (i := 961) (by decide +kernel), rfl⟩
theorem mv_116 : Cond.selects (kN (mO 116)) (mY 116) (mY 116) ∈ lw_good := List.mem_filter.mpr ⟨List.mem_of_getElem? (i := 962) (by decide +kernel), rfl⟩
set_option maxRecDepth 100000 in
theorem mc_117 : Cond.code (mY 117) (mC 117) (mL 117) (mR 117) ∈ lw_good := List.mem_filter.mpr ⟨List.mem_of_getElem? (i := 971) rfl, rfl⟩
theorem mi_117 : Cond.initialized (mY 117).cls ∈ lw_good := List.mem_filter.mpr ⟨List.mem_of_getElem? (i := 38) (by decide +kernel), rfl⟩
theorem ms_117 : Cond.instanceMethod (mY 117) ∈ lw_good := List.mem_filter.mpr ⟨List.mem_of_getElem? (i := 970) (by decide +kernel), rfl⟩
theorem mv_117 : Cond.selects (kN (mO 117)) (mY 117) (mY 117) ∈ lw_good := List.mem_filter.mpr ⟨List.mem_of_getElem? (i := 30) (by decide +kernel), rfl⟩
set_option maxRecDepth 100000 in
theorem mc_118 : Cond.code (mY 118) (mC 118) (mL 118) (mR 118) ∈ lw_good := List.mem_filter.mpr ⟨List.mem_of_getElem? (i := 967) rfl, rfl⟩
theorem mi_118 : Cond.initialized (mY 118).cls ∈ lw_good := List.mem_filter.mpr ⟨List.mem_of_getElem? (i := 38) (by decide +kernel), rfl⟩
theorem ms_118 : Cond.instanceMethod (mY 118) ∈ lw_good := List.mem_filter.mpr ⟨List.mem_of_getElem? (i := 965) (by decide +kernel), rfl⟩
theorem mv_118 : Cond.selects (kN (mO 118)) (mY 118) (mY 118) ∈ lw_good := List.mem_filter.mpr ⟨List.mem_of_getElem? (i := 966) (by decide +kernel), rfl⟩
theorem m_code : ∀ m, m < 119 → Cond.code (mY m) (mC m) (mL m) (mR m) ∈ lw_good := by
  intro m hm
  match m, hm with
  | 0, _ => exact mc_0
  | 1, _ => exact mc_1
  | 2, _ => exact mc_2
  | 3, _ => exact mc_3
  | 4, _ => exact mc_4
  | 5, _ => exact mc_5
  | 6, _ => exact mc_6
  | 7, _ => exact mc_7
  | 8, _ => exact mc_8
  | 9, _ => exact mc_9
  | 10, _ => exact mc_10
  | 11, _ => exact mc_11
  | 12, _ => exact mc_12
  | 13, _ => exact mc_13
  | 14, _ => exact mc_14
  | 15, _ => exact mc_15
  | 16, _ => exact mc_16
  | 17, _ => exact mc_17
  | 18, _ => exact mc_18
  | 19, _ => exact mc_19
  | 20, _ => exact mc_20
  | 21, _ => exact mc_21
  | 22, _ => exact mc_22
  | 23, _ => exact mc_23
  | 24, _ => exact mc_24
  | 25, _ => exact mc_25
  | 26, _ => exact mc_26
  | 27, _ => exact mc_27
  | 28, _ => exact mc_28
  | 29, _ => exact mc_29
  | 30, _ => exact mc_30
  | 31, _ => exact mc_31
  | 32, _ => exact mc_32
  | 33, _ => exact mc_33
  | 34, _ => exact mc_34
  | 35, _ => exact mc_35
  | 36, _ => exact mc_36
  | 37, _ => exact mc_37
  | 38, _ => exact mc_38
  | 39, _ => exact mc_39
  | 40, _ => exact mc_40
  | 41, _ => exact mc_41
  | 42, _ => exact mc_42
  | 43, _ => exact mc_43
  | 44, _ => exact mc_44
  | 45, _ => exact mc_45
  | 46, _ => exact mc_46
  | 47, _ => exact mc_47
  | 48, _ => exact mc_48
  | 49, _ => exact mc_49
  | 50, _ => exact mc_50
  | 51, _ => exact mc_51
  | 52, _ => exact mc_52
  | 53, _ => exact mc_53
  | 54, _ => exact mc_54
  | 55, _ => exact mc_55
  | 56, _ => exact mc_56
  | 57, _ => exact mc_57
  | 58, _ => exact mc_58
  | 59, _ => exact mc_59
  | 60, _ => exact mc_60
  | 61, _ => exact mc_61
  | 62, _ => exact mc_62
  | 63, _ => exact mc_63
  | 64, _ => exact mc_64
  | 65, _ => exact mc_65
  | 66, _ => exact mc_66
  | 67, _ => exact mc_67
  | 68, _ => exact mc_68
  | 69, _ => exact mc_69
  | 70, _ => exact mc_70
  | 71, _ => exact mc_71
  | 72, _ => exact mc_72
  | 73, _ => exact mc_73
  | 74, _ => exact mc_74
  | 75, _ => exact mc_75
  | 76, _ => exact mc_76
  | 77, _ => exact mc_77
  | 78, _ => exact mc_78
  | 79, _ => exact mc_79
  | 80, _ => exact mc_80
  | 81, _ => exact mc_81
  | 82, _ => exact mc_82
  | 83, _ => exact mc_83
  | 84, _ => exact mc_84
  | 85, _ => exact mc_85
  | 86, _ => exact mc_86
  | 87, _ => exact mc_87
  | 88, _ => exact mc_88
  | 89, _ => exact mc_89
  | 90, _ => exact mc_90
  | 91, _ => exact mc_91
  | 92, _ => exact mc_92
  | 93, _ => exact mc_93
  | 94, _ => exact mc_94
  | 95, _ => exact mc_95
  | 96, _ => exact mc_96
  | 97, _ => exact mc_97
  | 98, _ => exact mc_98
  | 99, _ => exact mc_99
  | 100, _ => exact mc_100
  | 101, _ => exact mc_101
  | 102, _ => exact mc_102
  | 103, _ => exact mc_103
  | 104, _ => exact mc_104
  | 105, _ => exact mc_105
  | 106, _ => exact mc_106
  | 107, _ => exact mc_107
  | 108, _ => exact mc_108
  | 109, _ => exact mc_109
  | 110, _ => exact mc_110
  | 111, _ => exact mc_111
  | 112, _ => exact mc_112
  | 113, _ => exact mc_113
  | 114, _ => exact mc_114
  | 115, _ => exact mc_115
  | 116, _ => exact mc_116
  | 117, _ => exact mc_117
  | 118, _ => exact mc_118
  | m + 119, h => exact absurd h (by omega)
theorem m_init : ∀ m, m < 119 → Cond.initialized (mY m).cls ∈ lw_good := by
  intro m hm
  match m, hm with
  | 0, _ => exact mi_0
  | 1, _ => exact mi_1
  | 2, _ => exact mi_2
  | 3, _ => exact mi_3
  | 4, _ => exact mi_4
  | 5, _ => exact mi_5
  | 6, _ => exact mi_6
  | 7, _ => exact mi_7
  | 8, _ => exact mi_8
  | 9, _ => exact mi_9
  | 10, _ => exact mi_10
  | 11, _ => exact mi_11
  | 12, _ => exact mi_12
  | 13, _ => exact mi_13
  | 14, _ => exact mi_14
  | 15, _ => exact mi_15
  | 16, _ => exact mi_16
  | 17, _ => exact mi_17
  | 18, _ => exact mi_18
  | 19, _ => exact mi_19
  | 20, _ => exact mi_20
  | 21, _ => exact mi_21
  | 22, _ => exact mi_22
  | 23, _ => exact mi_23
  | 24, _ => exact mi_24
  | 25, _ => exact mi_25
  | 26, _ => exact mi_26
  | 27, _ => exact mi_27
  | 28, _ => exact mi_28
  | 29, _ => exact mi_29
  | 30, _ => exact mi_30
  | 31, _ => exact mi_31
  | 32, _ => exact mi_32
  | 33, _ => exact mi_33
  | 34, _ => exact mi_34
  | 35, _ => exact mi_35
  | 36, _ => exact mi_36
  | 37, _ => exact mi_37
  | 38, _ => exact mi_38
  | 39, _ => exact mi_39
  | 40, _ => exact mi_40
  | 41, _ => exact mi_41
  | 42, _ => exact mi_42
  | 43, _ => exact mi_43
  | 44, _ => exact mi_44
  | 45, _ => exact mi_45
  | 46, _ => exact mi_46
  | 47, _ => exact mi_47
  | 48, _ => exact mi_48
  | 49, _ => exact mi_49
  | 50, _ => exact mi_50
  | 51, _ => exact mi_51
  | 52, _ => exact mi_52
  | 53, _ => exact mi_53
  | 54, _ => exact mi_54
  | 55, _ => exact mi_55
  | 56, _ => exact mi_56
  | 57, _ => exact mi_57
  | 58, _ => exact mi_58
  | 59, _ => exact mi_59
  | 60, _ => exact mi_60
  | 61, _ => exact mi_61
  | 62, _ => exact mi_62
  | 63, _ => exact mi_63
  | 64, _ => exact mi_64
  | 65, _ => exact mi_65
  | 66, _ => exact mi_66
  | 67, _ => exact mi_67
  | 68, _ => exact mi_68
  | 69, _ => exact mi_69
  | 70, _ => exact mi_70
  | 71, _ => exact mi_71
  | 72, _ => exact mi_72
  | 73, _ => exact mi_73
  | 74, _ => exact mi_74
  | 75, _ => exact mi_75
  | 76, _ => exact mi_76
  | 77, _ => exact mi_77
  | 78, _ => exact mi_78
  | 79, _ => exact mi_79
  | 80, _ => exact mi_80
  | 81, _ => exact mi_81
  | 82, _ => exact mi_82
  | 83, _ => exact mi_83
  | 84, _ => exact mi_84
  | 85, _ => exact mi_85
  | 86, _ => exact mi_86
  | 87, _ => exact mi_87
  | 88, _ => exact mi_88
  | 89, _ => exact mi_89
  | 90, _ => exact mi_90
  | 91, _ => exact mi_91
  | 92, _ => exact mi_92
  | 93, _ => exact mi_93
  | 94, _ => exact mi_94
  | 95, _ => exact mi_95
  | 96, _ => exact mi_96
  | 97, _ => exact mi_97
  | 98, _ => exact mi_98
  | 99, _ => exact mi_99
  | 100, _ => exact mi_100
  | 101, _ => exact mi_101
  | 102, _ => exact mi_102
  | 103, _ => exact mi_103
  | 104, _ => exact mi_104
  | 105, _ => exact mi_105
  | 106, _ => exact mi_106
  | 107, _ => exact mi_107
  | 108, _ => exact mi_108
  | 109, _ => exact mi_109
  | 110, _ => exact mi_110
  | 111, _ => exact mi_111
  | 112, _ => exact mi_112
  | 113, _ => exact mi_113
  | 114, _ => exact mi_114
  | 115, _ => exact mi_115
  | 116, _ => exact mi_116
  | 117, _ => exact mi_117
  | 118, _ => exact mi_118
  | m + 119, h => exact absurd h (by omega)
theorem m_stat : ∀ m, m < 119 → mSt m = true → Cond.static (mY m) ∈ lw_good := by
  intro m hm
  match m, hm with
  | 0, _ => exact fun h => absurd h (by decide)
  | 1, _ => exact fun h => absurd h (by decide)
  | 2, _ => exact fun h => absurd h (by decide)
  | 3, _ => exact fun h => absurd h (by decide)
  | 4, _ => exact fun h => absurd h (by decide)
  | 5, _ => exact fun h => absurd h (by decide)
  | 6, _ => exact fun h => absurd h (by decide)
  | 7, _ => exact fun _ => ms_7
  | 8, _ => exact fun h => absurd h (by decide)
  | 9, _ => exact fun h => absurd h (by decide)
  | 10, _ => exact fun h => absurd h (by decide)
  | 11, _ => exact fun h => absurd h (by decide)
  | 12, _ => exact fun h => absurd h (by decide)
  | 13, _ => exact fun h => absurd h (by decide)
  | 14, _ => exact fun h => absurd h (by decide)
  | 15, _ => exact fun h => absurd h (by decide)
  | 16, _ => exact fun h => absurd h (by decide)
  | 17, _ => exact fun h => absurd h (by decide)
  | 18, _ => exact fun h => absurd h (by decide)
  | 19, _ => exact fun h => absurd h (by decide)
  | 20, _ => exact fun h => absurd h (by decide)
  | 21, _ => exact fun h => absurd h (by decide)
  | 22, _ => exact fun _ => ms_22
  | 23, _ => exact fun h => absurd h (by decide)
  | 24, _ => exact fun h => absurd h (by decide)
  | 25, _ => exact fun h => absurd h (by decide)
  | 26, _ => exact fun h => absurd h (by decide)
  | 27, _ => exact fun h => absurd h (by decide)
  | 28, _ => exact fun h => absurd h (by decide)
  | 29, _ => exact fun h => absurd h (by decide)
  | 30, _ => exact fun h => absurd h (by decide)
  | 31, _ => exact fun h => absurd h (by decide)
  | 32, _ => exact fun h => absurd h (by decide)
  | 33, _ => exact fun h => absurd h (by decide)
  | 34, _ => exact fun h => absurd h (by decide)
  | 35, _ => exact fun h => absurd h (by decide)
  | 36, _ => exact fun h => absurd h (by decide)
  | 37, _ => exact fun h => absurd h (by decide)
  | 38, _ => exact fun h => absurd h (by decide)
  | 39, _ => exact fun h => absurd h (by decide)
  | 40, _ => exact fun h => absurd h (by decide)
  | 41, _ => exact fun h => absurd h (by decide)
  | 42, _ => exact fun h => absurd h (by decide)
  | 43, _ => exact fun h => absurd h (by decide)
  | 44, _ => exact fun h => absurd h (by decide)
  | 45, _ => exact fun h => absurd h (by decide)
  | 46, _ => exact fun h => absurd h (by decide)
  | 47, _ => exact fun h => absurd h (by decide)
  | 48, _ => exact fun h => absurd h (by decide)
  | 49, _ => exact fun h => absurd h (by decide)
  | 50, _ => exact fun h => absurd h (by decide)
  | 51, _ => exact fun h => absurd h (by decide)
  | 52, _ => exact fun h => absurd h (by decide)
  | 53, _ => exact fun h => absurd h (by decide)
  | 54, _ => exact fun h => absurd h (by decide)
  | 55, _ => exact fun h => absurd h (by decide)
  | 56, _ => exact fun h => absurd h (by decide)
  | 57, _ => exact fun h => absurd h (by decide)
  | 58, _ => exact fun h => absurd h (by decide)
  | 59, _ => exact fun h => absurd h (by decide)
  | 60, _ => exact fun h => absurd h (by decide)
  | 61, _ => exact fun _ => ms_61
  | 62, _ => exact fun _ => ms_62
  | 63, _ => exact fun _ => ms_63
  | 64, _ => exact fun h => absurd h (by decide)
  | 65, _ => exact fun h => absurd h (by decide)
  | 66, _ => exact fun h => absurd h (by decide)
  | 67, _ => exact fun h => absurd h (by decide)
  | 68, _ => exact fun h => absurd h (by decide)
  | 69, _ => exact fun h => absurd h (by decide)
  | 70, _ => exact fun h => absurd h (by decide)
  | 71, _ => exact fun h => absurd h (by decide)
  | 72, _ => exact fun _ => ms_72
  | 73, _ => exact fun h => absurd h (by decide)
  | 74, _ => exact fun h => absurd h (by decide)
  | 75, _ => exact fun h => absurd h (by decide)
  | 76, _ => exact fun h => absurd h (by decide)
  | 77, _ => exact fun h => absurd h (by decide)
  | 78, _ => exact fun h => absurd h (by decide)
  | 79, _ => exact fun _ => ms_79
  | 80, _ => exact fun _ => ms_80
  | 81, _ => exact fun h => absurd h (by decide)
  | 82, _ => exact fun h => absurd h (by decide)
  | 83, _ => exact fun h => absurd h (by decide)
  | 84, _ => exact fun h => absurd h (by decide)
  | 85, _ => exact fun h => absurd h (by decide)
  | 86, _ => exact fun h => absurd h (by decide)
  | 87, _ => exact fun h => absurd h (by decide)
  | 88, _ => exact fun h => absurd h (by decide)
  | 89, _ => exact fun h => absurd h (by decide)
  | 90, _ => exact fun h => absurd h (by decide)
  | 91, _ => exact fun h => absurd h (by decide)
  | 92, _ => exact fun h => absurd h (by decide)
  | 93, _ => exact fun h => absurd h (by decide)
  | 94, _ => exact fun h => absurd h (by decide)
  | 95, _ => exact fun h => absurd h (by decide)
  | 96, _ => exact fun h => absurd h (by decide)
  | 97, _ => exact fun h => absurd h (by decide)
  | 98, _ => exact fun h => absurd h (by decide)
  | 99, _ => exact fun h => absurd h (by decide)
  | 100, _ => exact fun h => absurd h (by decide)
  | 101, _ => exact fun h => absurd h (by decide)
  | 102, _ => exact fun h => absurd h (by decide)
  | 103, _ => exact fun h => absurd h (by decide)
  | 104, _ => exact fun h => absurd h (by decide)
  | 105, _ => exact fun h => absurd h (by decide)
  | 106, _ => exact fun h => absurd h (by decide)
  | 107, _ => exact fun h => absurd h (by decide)
  | 108, _ => exact fun h => absurd h (by decide)
  | 109, _ => exact fun h => absurd h (by decide)
  | 110, _ => exact fun h => absurd h (by decide)
  | 111, _ => exact fun h => absurd h (by decide)
  | 112, _ => exact fun h => absurd h (by decide)
  | 113, _ => exact fun h => absurd h (by decide)
  | 114, _ => exact fun h => absurd h (by decide)
  | 115, _ => exact fun h => absurd h (by decide)
  | 116, _ => exact fun h => absurd h (by decide)
  | 117, _ => exact fun h => absurd h (by decide)
  | 118, _ => exact fun h => absurd h (by decide)
  | m + 119, h => exact absurd h (by omega)
theorem m_inst : ∀ m, m < 119 → mSt m = false → Cond.instanceMethod (mY m) ∈ lw_good := by
  intro m hm
  match m, hm with
  | 0, _ => exact fun _ => ms_0
  | 1, _ => exact fun _ => ms_1
  | 2, _ => exact fun _ => ms_2
  | 3, _ => exact fun _ => ms_3
  | 4, _ => exact fun _ => ms_4
  | 5, _ => exact fun _ => ms_5
  | 6, _ => exact fun _ => ms_6
  | 7, _ => exact fun h => absurd h (by decide)
  | 8, _ => exact fun _ => ms_8
  | 9, _ => exact fun _ => ms_9
  | 10, _ => exact fun _ => ms_10
  | 11, _ => exact fun _ => ms_11
  | 12, _ => exact fun _ => ms_12
  | 13, _ => exact fun _ => ms_13
  | 14, _ => exact fun _ => ms_14
  | 15, _ => exact fun _ => ms_15
  | 16, _ => exact fun _ => ms_16
  | 17, _ => exact fun _ => ms_17
  | 18, _ => exact fun _ => ms_18
  | 19, _ => exact fun _ => ms_19
  | 20, _ => exact fun _ => ms_20
  | 21, _ => exact fun _ => ms_21
  | 22, _ => exact fun h => absurd h (by decide)
  | 23, _ => exact fun _ => ms_23
  | 24, _ => exact fun _ => ms_24
  | 25, _ => exact fun _ => ms_25
  | 26, _ => exact fun _ => ms_26
  | 27, _ => exact fun _ => ms_27
  | 28, _ => exact fun _ => ms_28
  | 29, _ => exact fun _ => ms_29
  | 30, _ => exact fun _ => ms_30
  | 31, _ => exact fun _ => ms_31
  | 32, _ => exact fun _ => ms_32
  | 33, _ => exact fun _ => ms_33
  | 34, _ => exact fun _ => ms_34
  | 35, _ => exact fun _ => ms_35
  | 36, _ => exact fun _ => ms_36
  | 37, _ => exact fun _ => ms_37
  | 38, _ => exact fun _ => ms_38
  | 39, _ => exact fun _ => ms_39
  | 40, _ => exact fun _ => ms_40
  | 41, _ => exact fun _ => ms_41
  | 42, _ => exact fun _ => ms_42
  | 43, _ => exact fun _ => ms_43
  | 44, _ => exact fun _ => ms_44
  | 45, _ => exact fun _ => ms_45
  | 46, _ => exact fun _ => ms_46
  | 47, _ => exact fun _ => ms_47
  | 48, _ => exact fun _ => ms_48
  | 49, _ => exact fun _ => ms_49
  | 50, _ => exact fun _ => ms_50
  | 51, _ => exact fun _ => ms_51
  | 52, _ => exact fun _ => ms_52
  | 53, _ => exact fun _ => ms_53
  | 54, _ => exact fun _ => ms_54
  | 55, _ => exact fun _ => ms_55
  | 56, _ => exact fun _ => ms_56
  | 57, _ => exact fun _ => ms_57
  | 58, _ => exact fun _ => ms_58
  | 59, _ => exact fun _ => ms_59
  | 60, _ => exact fun _ => ms_60
  | 61, _ => exact fun h => absurd h (by decide)
  | 62, _ => exact fun h => absurd h (by decide)
  | 63, _ => exact fun h => absurd h (by decide)
  | 64, _ => exact fun _ => ms_64
  | 65, _ => exact fun _ => ms_65
  | 66, _ => exact fun _ => ms_66
  | 67, _ => exact fun _ => ms_67
  | 68, _ => exact fun _ => ms_68
  | 69, _ => exact fun _ => ms_69
  | 70, _ => exact fun _ => ms_70
  | 71, _ => exact fun _ => ms_71
  | 72, _ => exact fun h => absurd h (by decide)
  | 73, _ => exact fun _ => ms_73
  | 74, _ => exact fun _ => ms_74
  | 75, _ => exact fun _ => ms_75
  | 76, _ => exact fun _ => ms_76
  | 77, _ => exact fun _ => ms_77
  | 78, _ => exact fun _ => ms_78
  | 79, _ => exact fun h => absurd h (by decide)
  | 80, _ => exact fun h => absurd h (by decide)
  | 81, _ => exact fun _ => ms_81
  | 82, _ => exact fun _ => ms_82
  | 83, _ => exact fun _ => ms_83
  | 84, _ => exact fun _ => ms_84
  | 85, _ => exact fun _ => ms_85
  | 86, _ => exact fun _ => ms_86
  | 87, _ => exact fun _ => ms_87
  | 88, _ => exact fun _ => ms_88
  | 89, _ => exact fun _ => ms_89
  | 90, _ => exact fun _ => ms_90
  | 91, _ => exact fun _ => ms_91
  | 92, _ => exact fun _ => ms_92
  | 93, _ => exact fun _ => ms_93
  | 94, _ => exact fun _ => ms_94
  | 95, _ => exact fun _ => ms_95
  | 96, _ => exact fun _ => ms_96
  | 97, _ => exact fun _ => ms_97
  | 98, _ => exact fun _ => ms_98
  | 99, _ => exact fun _ => ms_99
  | 100, _ => exact fun _ => ms_100
  | 101, _ => exact fun _ => ms_101
  | 102, _ => exact fun _ => ms_102
  | 103, _ => exact fun _ => ms_103
  | 104, _ => exact fun _ => ms_104
  | 105, _ => exact fun _ => ms_105
  | 106, _ => exact fun _ => ms_106
  | 107, _ => exact fun _ => ms_107
  | 108, _ => exact fun _ => ms_108
  | 109, _ => exact fun _ => ms_109
  | 110, _ => exact fun _ => ms_110
  | 111, _ => exact fun _ => ms_111
  | 112, _ => exact fun _ => ms_112
  | 113, _ => exact fun _ => ms_113
  | 114, _ => exact fun _ => ms_114
  | 115, _ => exact fun _ => ms_115
  | 116, _ => exact fun _ => ms_116
  | 117, _ => exact fun _ => ms_117
  | 118, _ => exact fun _ => ms_118
  | m + 119, h => exact absurd h (by omega)
theorem m_sel : ∀ m, m < 119 → mSt m = false → (mY m).name ≠ "<init>" → Cond.selects (kN (mO m)) (mY m) (mY m) ∈ lw_good := by
  intro m hm
  match m, hm with
  | 0, _ => exact fun _ h => absurd rfl h
  | 1, _ => exact fun _ _ => mv_1
  | 2, _ => exact fun _ _ => mv_2
  | 3, _ => exact fun _ _ => mv_3
  | 4, _ => exact fun _ _ => mv_4
  | 5, _ => exact fun _ _ => mv_5
  | 6, _ => exact fun _ _ => mv_6
  | 7, _ => exact fun h _ => absurd h (by decide)
  | 8, _ => exact fun _ h => absurd rfl h
  | 9, _ => exact fun _ h => absurd rfl h
  | 10, _ => exact fun _ h => absurd rfl h
  | 11, _ => exact fun _ h => absurd rfl h
  | 12, _ => exact fun _ h => absurd rfl h
  | 13, _ => exact fun _ _ => mv_13
  | 14, _ => exact fun _ _ => mv_14
  | 15, _ => exact fun _ _ => mv_15
  | 16, _ => exact fun _ _ => mv_16
  | 17, _ => exact fun _ _ => mv_17
  | 18, _ => exact fun _ _ => mv_18
  | 19, _ => exact fun _ _ => mv_19
  | 20, _ => exact fun _ _ => mv_20
  | 21, _ => exact fun _ _ => mv_21
  | 22, _ => exact fun h _ => absurd h (by decide)
  | 23, _ => exact fun _ h => absurd rfl h
  | 24, _ => exact fun _ h => absurd rfl h
  | 25, _ => exact fun _ _ => mv_25
  | 26, _ => exact fun _ _ => mv_26
  | 27, _ => exact fun _ _ => mv_27
  | 28, _ => exact fun _ _ => mv_28
  | 29, _ => exact fun _ _ => mv_29
  | 30, _ => exact fun _ _ => mv_30
  | 31, _ => exact fun _ h => absurd rfl h
  | 32, _ => exact fun _ h => absurd rfl h
  | 33, _ => exact fun _ h => absurd rfl h
  | 34, _ => exact fun _ _ => mv_34
  | 35, _ => exact fun _ _ => mv_35
  | 36, _ => exact fun _ _ => mv_36
  | 37, _ => exact fun _ _ => mv_37
  | 38, _ => exact fun _ _ => mv_38
  | 39, _ => exact fun _ _ => mv_39
  | 40, _ => exact fun _ _ => mv_40
  | 41, _ => exact fun _ _ => mv_41
  | 42, _ => exact fun _ _ => mv_42
  | 43, _ => exact fun _ _ => mv_43
  | 44, _ => exact fun _ _ => mv_44
  | 45, _ => exact fun _ _ => mv_45
  | 46, _ => exact fun _ _ => mv_46
  | 47, _ => exact fun _ _ => mv_47
  | 48, _ => exact fun _ _ => mv_48
  | 49, _ => exact fun _ _ => mv_49
  | 50, _ => exact fun _ _ => mv_50
  | 51, _ => exact fun _ _ => mv_51
  | 52, _ => exact fun _ _ => mv_52
  | 53, _ => exact fun _ _ => mv_53
  | 54, _ => exact fun _ _ => mv_54
  | 55, _ => exact fun _ _ => mv_55
  | 56, _ => exact fun _ _ => mv_56
  | 57, _ => exact fun _ _ => mv_57
  | 58, _ => exact fun _ _ => mv_58
  | 59, _ => exact fun _ _ => mv_59
  | 60, _ => exact fun _ _ => mv_60
  | 61, _ => exact fun h _ => absurd h (by decide)
  | 62, _ => exact fun h _ => absurd h (by decide)
  | 63, _ => exact fun h _ => absurd h (by decide)
  | 64, _ => exact fun _ _ => mv_64
  | 65, _ => exact fun _ _ => mv_65
  | 66, _ => exact fun _ _ => mv_66
  | 67, _ => exact fun _ _ => mv_67
  | 68, _ => exact fun _ _ => mv_68
  | 69, _ => exact fun _ _ => mv_69
  | 70, _ => exact fun _ _ => mv_70
  | 71, _ => exact fun _ _ => mv_71
  | 72, _ => exact fun h _ => absurd h (by decide)
  | 73, _ => exact fun _ _ => mv_73
  | 74, _ => exact fun _ _ => mv_74
  | 75, _ => exact fun _ _ => mv_75
  | 76, _ => exact fun _ _ => mv_76
  | 77, _ => exact fun _ _ => mv_77
  | 78, _ => exact fun _ h => absurd rfl h
  | 79, _ => exact fun h _ => absurd h (by decide)
  | 80, _ => exact fun h _ => absurd h (by decide)
  | 81, _ => exact fun _ _ => mv_81
  | 82, _ => exact fun _ _ => mv_82
  | 83, _ => exact fun _ _ => mv_83
  | 84, _ => exact fun _ _ => mv_84
  | 85, _ => exact fun _ _ => mv_85
  | 86, _ => exact fun _ _ => mv_86
  | 87, _ => exact fun _ _ => mv_87
  | 88, _ => exact fun _ _ => mv_88
  | 89, _ => exact fun _ _ => mv_89
  | 90, _ => exact fun _ _ => mv_90
  | 91, _ => exact fun _ _ => mv_91
  | 92, _ => exact fun _ _ => mv_92
  | 93, _ => exact fun _ _ => mv_93
  | 94, _ => exact fun _ _ => mv_94
  | 95, _ => exact fun _ _ => mv_95
  | 96, _ => exact fun _ _ => mv_96
  | 97, _ => exact fun _ _ => mv_97
  | 98, _ => exact fun _ _ => mv_98
  | 99, _ => exact fun _ _ => mv_99
  | 100, _ => exact fun _ _ => mv_100
  | 101, _ => exact fun _ _ => mv_101
  | 102, _ => exact fun _ _ => mv_102
  | 103, _ => exact fun _ _ => mv_103
  | 104, _ => exact fun _ _ => mv_104
  | 105, _ => exact fun _ _ => mv_105
  | 106, _ => exact fun _ _ => mv_106
  | 107, _ => exact fun _ _ => mv_107
  | 108, _ => exact fun _ _ => mv_108
  | 109, _ => exact fun _ _ => mv_109
  | 110, _ => exact fun _ _ => mv_110
  | 111, _ => exact fun _ _ => mv_111
  | 112, _ => exact fun _ _ => mv_112
  | 113, _ => exact fun _ _ => mv_113
  | 114, _ => exact fun _ _ => mv_114
  | 115, _ => exact fun _ _ => mv_115
  | 116, _ => exact fun _ _ => mv_116
  | 117, _ => exact fun _ _ => mv_117
  | 118, _ => exact fun _ _ => mv_118
  | m + 119, h => exact absurd h (by omega)
def mP (m : Nat) : Bool := decide ((mY m).cls = kN (mO m)) && plainName (mY m).cls && decide ((mY m).cls ≠ "java/lang/invoke/MethodHandle") && decide ((mY m).cls ≠ "java/lang/invoke/VarHandle") && decide ((parseMethodDescriptor (mY m).desc).map (fun d => d.parameters.length) = some (if mSt m then mA m else mA m - 1)) && (mSt m || Nat.blt 0 (mA m)) && (decide ((mY m).name ≠ "<init>") || (decide (mR m = none) && !mSt m)) && Nat.ble (mL m) 20 && Nat.ble (mA m) (mL m)
theorem m_plain : (List.range 119).all mP = true := by decide +kernel
