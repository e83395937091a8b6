/-! what the tables say of a method -/
def mwR (r : mR) : Prop := Cond.code r.1 r.2.1 r.2.2.1 r.2.2.2.1 ∈ mTb ∧ Cond.initialized r.1.cls ∈ mTb ∧ (if r.2.2.2.2.2.2.1 = 1 then Cond.static r.1 ∈ mTb else Cond.instanceMethod r.1 ∈ mTb) ∧ (r.2.2.2.2.2.2.1 = 0 → Cond.selects r.1.cls r.1 r.1 ∈ mTb)
def mwS (r : mR) : Prop := r.1.cls = mm_cn r.2.2.2.2.1 ∧ plainName r.1.cls = true ∧ r.1.cls ≠ "java/lang/invoke/MethodHandle" ∧ r.1.cls ≠ "java/lang/invoke/VarHandle" ∧ (parseMethodDescriptor r.1.desc).map (fun d => d.parameters.length) = some (if r.2.2.2.2.2.2.1 = 1 then r.2.2.2.2.2.1 else r.2.2.2.2.2.1 - 1) ∧ (r.2.2.2.2.2.2.1 = 2 → r.1.name = "<init>" ∧ r.2.2.2.1 = none) ∧ (r.2.2.2.2.2.2.1 = 1 ∨ 1 ≤ r.2.2.2.2.2.1) ∧ r.2.2.1 ≤ 30 ∧ mBz r.2.2.2.1 < 4 ∧ r.2.2.2.2.2.2.1 ≤ 2
set_option maxRecDepth 100000 in
theorem mwR_0 : mwR mr_0 := ⟨mb_1 (List.mem_of_getElem? (i := 121) rfl) rfl, mb_1 (List.mem_of_getElem? (i := 7) rfl) rfl, mb_1 (List.mem_of_getElem? (i := 120) rfl) rfl, fun h => absurd h (by decide)⟩
set_option maxRecDepth 100000 in
theorem mwR_1 : mwR mr_1 := ⟨mb_3 (List.mem_of_getElem? (i := 5) rfl) rfl, mb_1 (List.mem_of_getElem? (i := 7) rfl) rfl, mb_3 (List.mem_of_getElem? (i := 3) rfl) rfl, fun _ => mb_3 (List.mem_of_getElem? (i := 4) rfl) rfl⟩
set_option maxRecDepth 100000 in
theorem mwR_2 : mwR mr_2 := ⟨mb_2 (List.mem_of_getElem? (i := 210) rfl) rfl, mb_1 (List.mem_of_getElem? (i := 7) rfl) rfl, mb_2 (List.mem_of_getElem? (i := 208) rfl) rfl, fun _ => mb_2 (List.mem_of_getElem? (i := 209) rfl) rfl⟩
set_option maxRecDepth 100000 in
theorem mwR_3 : mwR mr_3 := ⟨mb_3 (List.mem_of_getElem? (i := 26) rfl) rfl, mb_1 (List.mem_of_getElem? (i := 7) rfl) rfl, mb_3 (List.mem_of_getElem? (i := 24) rfl) rfl, fun _ => mb_3 (List.mem_of_getElem? (i := 25) rfl) rfl⟩
set_option maxRecDepth 100000 in
theorem mwR_4 : mwR mr_4 := ⟨mb_2 (List.mem_of_getElem? (i := 206) rfl) rfl, mb_1 (List.mem_of_getElem? (i := 7) rfl) rfl, mb_2 (List.mem_of_getElem? (i := 204) rfl) rfl, fun _ => mb_2 (List.mem_of_getElem? (i := 205) rfl) rfl⟩
set_option maxRecDepth 100000 in
theorem mwR_5 : mwR mr_5 := ⟨mb_3 (List.mem_of_getElem? (i := 77) rfl) rfl, mb_1 (List.mem_of_getElem? (i := 7) rfl) rfl, mb_3 (List.mem_of_getElem? (i := 75) rfl) rfl, fun _ => mb_3 (List.mem_of_getElem? (i := 76) rfl) rfl⟩
set_option maxRecDepth 100000 in
theorem mwR_6 : mwR mr_6 := ⟨mb_5 (List.mem_of_getElem? (i := 118) rfl) rfl, mb_1 (List.mem_of_getElem? (i := 7) rfl) rfl, mb_5 (List.mem_of_getElem? (i := 116) rfl) rfl, fun _ => mb_5 (List.mem_of_getElem? (i := 117) rfl) rfl⟩
set_option maxRecDepth 100000 in
theorem mwR_7 : mwR mr_7 := ⟨mb_5 (List.mem_of_getElem? (i := 143) rfl) rfl, mb_1 (List.mem_of_getElem? (i := 7) rfl) rfl, mb_5 (List.mem_of_getElem? (i := 141) rfl) rfl, fun _ => mb_5 (List.mem_of_getElem? (i := 142) rfl) rfl⟩
set_option maxRecDepth 100000 in
theorem mwR_8 : mwR mr_8 := ⟨mb_3 (List.mem_of_getElem? (i := 155) rfl) rfl, mb_1 (List.mem_of_getElem? (i := 15) rfl) rfl, mb_3 (List.mem_of_getElem? (i := 154) rfl) rfl, fun h => absurd h (by decide)⟩
set_option maxRecDepth 100000 in
theorem mwR_9 : mwR mr_9 := ⟨mb_3 (List.mem_of_getElem? (i := 166) rfl) rfl, mb_1 (List.mem_of_getElem? (i := 15) rfl) rfl, mb_3 (List.mem_of_getElem? (i := 165) rfl) rfl, fun h => absurd h (by decide)⟩
set_option maxRecDepth 100000 in
theorem mwR_10 : mwR mr_10 := ⟨mb_3 (List.mem_of_getElem? (i := 158) rfl) rfl, mb_1 (List.mem_of_getElem? (i := 15) rfl) rfl, mb_3 (List.mem_of_getElem? (i := 157) rfl) rfl, fun h => absurd h (by decide)⟩
set_option maxRecDepth 100000 in
theorem mwR_11 : mwR mr_11 := ⟨mb_4 (List.mem_of_getElem? (i := 5) rfl) rfl, mb_1 (List.mem_of_getElem? (i := 15) rfl) rfl, mb_4 (List.mem_of_getElem? (i := 4) rfl) rfl, fun h => absurd h (by decide)⟩
set_option maxRecDepth 100000 in
theorem mwR_12 : mwR mr_12 := ⟨mb_4 (List.mem_of_getElem? (i := 23) rfl) rfl, mb_1 (List.mem_of_getElem? (i := 15) rfl) rfl, mb_4 (List.mem_of_getElem? (i := 22) rfl) rfl, fun h => absurd h (by decide)⟩
set_option maxRecDepth 100000 in
theorem mwR_13 : mwR mr_13 := ⟨mb_4 (List.mem_of_getElem? (i := 17) rfl) rfl, mb_1 (List.mem_of_getElem? (i := 15) rfl) rfl, mb_4 (List.mem_of_getElem? (i := 16) rfl) rfl, fun h => absurd h (by decide)⟩
set_option maxRecDepth 100000 in
theorem mwR_14 : mwR mr_14 := ⟨mb_4 (List.mem_of_getElem? (i := 35) rfl) rfl, mb_1 (List.mem_of_getElem? (i := 15) rfl) rfl, mb_4 (List.mem_of_getElem? (i := 34) rfl) rfl, fun h => absurd h (by decide)⟩
set_option maxRecDepth 100000 in
theorem mwR_15 : mwR mr_15 := ⟨mb_4 (List.mem_of_getElem? (i := 38) rfl) rfl, mb_1 (List.mem_of_getElem? (i := 15) rfl) rfl, mb_4 (List.mem_of_getElem? (i := 37) rfl) rfl, fun h => absurd h (by decide)⟩
set_option maxRecDepth 100000 in
theorem mwR_16 : mwR mr_16 := ⟨mb_4 (List.mem_of_getElem? (i := 42) rfl) rfl, mb_1 (List.mem_of_getElem? (i := 15) rfl) rfl, mb_4 (List.mem_of_getElem? (i := 41) rfl) rfl, fun h => absurd h (by decide)⟩
set_option maxRecDepth 100000 in
theorem mwR_17 : mwR mr_17 := ⟨mb_1 (List.mem_of_getElem? (i := 232) rfl) rfl, mb_1 (List.mem_of_getElem? (i := 10) rfl) rfl, mb_1 (List.mem_of_getElem? (i := 231) rfl) rfl, fun h => absurd h (by decide)⟩
set_option maxRecDepth 100000 in
theorem mwR_18 : mwR mr_18 := ⟨mb_4 (List.mem_of_getElem? (i := 2) rfl) rfl, mb_1 (List.mem_of_getElem? (i := 10) rfl) rfl, mb_4 (List.mem_of_getElem? (i := 0) rfl) rfl, fun _ => mb_4 (List.mem_of_getElem? (i := 1) rfl) rfl⟩
set_option maxRecDepth 100000 in
theorem mwR_19 : mwR mr_19 := ⟨mb_4 (List.mem_of_getElem? (i := 14) rfl) rfl, mb_1 (List.mem_of_getElem? (i := 10) rfl) rfl, mb_4 (List.mem_of_getElem? (i := 12) rfl) rfl, fun _ => mb_4 (List.mem_of_getElem? (i := 13) rfl) rfl⟩
set_option maxRecDepth 100000 in
theorem mwR_20 : mwR mr_20 := ⟨mb_4 (List.mem_of_getElem? (i := 31) rfl) rfl, mb_1 (List.mem_of_getElem? (i := 10) rfl) rfl, mb_4 (List.mem_of_getElem? (i := 29) rfl) rfl, fun _ => mb_4 (List.mem_of_getElem? (i := 30) rfl) rfl⟩
set_option maxRecDepth 100000 in
theorem mwR_21 : mwR mr_21 := ⟨mb_4 (List.mem_of_getElem? (i := 60) rfl) rfl, mb_1 (List.mem_of_getElem? (i := 10) rfl) rfl, mb_4 (List.mem_of_getElem? (i := 58) rfl) rfl, fun _ => mb_4 (List.mem_of_getElem? (i := 59) rfl) rfl⟩
set_option maxRecDepth 100000 in
theorem mwR_22 : mwR mr_22 := ⟨mb_2 (List.mem_of_getElem? (i := 75) rfl) rfl, mb_1 (List.mem_of_getElem? (i := 12) rfl) rfl, mb_2 (List.mem_of_getElem? (i := 74) rfl) rfl, fun h => absurd h (by decide)⟩
set_option maxRecDepth 100000 in
theorem mwR_23 : mwR mr_23 := ⟨mb_4 (List.mem_of_getElem? (i := 216) rfl) rfl, mb_1 (List.mem_of_getElem? (i := 12) rfl) rfl, mb_4 (List.mem_of_getElem? (i := 214) rfl) rfl, fun _ => mb_4 (List.mem_of_getElem? (i := 215) rfl) rfl⟩
set_option maxRecDepth 100000 in
theorem mwR_24 : mwR mr_24 := ⟨mb_5 (List.mem_of_getElem? (i := 43) rfl) rfl, mb_1 (List.mem_of_getElem? (i := 12) rfl) rfl, mb_5 (List.mem_of_getElem? (i := 41) rfl) rfl, fun _ => mb_5 (List.mem_of_getElem? (i := 42) rfl) rfl⟩
set_option maxRecDepth 100000 in
theorem mwR_25 : mwR mr_25 := ⟨mb_5 (List.mem_of_getElem? (i := 5) rfl) rfl, mb_1 (List.mem_of_getElem? (i := 12) rfl) rfl, mb_5 (List.mem_of_getElem? (i := 4) rfl) rfl, fun _ => mb_0 (List.mem_of_getElem? (i := 44) rfl) rfl⟩
set_option maxRecDepth 100000 in
theorem mwR_26 : mwR mr_26 := ⟨mb_5 (List.mem_of_getElem? (i := 1) rfl) rfl, mb_1 (List.mem_of_getElem? (i := 12) rfl) rfl, mb_5 (List.mem_of_getElem? (i := 0) rfl) rfl, fun _ => mb_0 (List.mem_of_getElem? (i := 43) rfl) rfl⟩
set_option maxRecDepth 100000 in
theorem mwR_27 : mwR mr_27 := ⟨mb_5 (List.mem_of_getElem? (i := 11) rfl) rfl, mb_1 (List.mem_of_getElem? (i := 12) rfl) rfl, mb_5 (List.mem_of_getElem? (i := 9) rfl) rfl, fun _ => mb_5 (List.mem_of_getElem? (i := 10) rfl) rfl⟩
set_option maxRecDepth 100000 in
theorem mwR_28 : mwR mr_28 := ⟨mb_5 (List.mem_of_getElem? (i := 35) rfl) rfl, mb_1 (List.mem_of_getElem? (i := 12) rfl) rfl, mb_5 (List.mem_of_getElem? (i := 33) rfl) rfl, fun _ => mb_5 (List.mem_of_getElem? (i := 34) rfl) rfl⟩
set_option maxRecDepth 100000 in
theorem mwR_29 : mwR mr_29 := ⟨mb_5 (List.mem_of_getElem? (i := 15) rfl) rfl, mb_1 (List.mem_of_getElem? (i := 12) rfl) rfl, mb_5 (List.mem_of_getElem? (i := 14) rfl) rfl, fun _ => mb_0 (List.mem_of_getElem? (i := 45) rfl) rfl⟩
set_option maxRecDepth 100000 in
theorem mwR_30 : mwR mr_30 := ⟨mb_4 (List.mem_of_getElem? (i := 230) rfl) rfl, mb_1 (List.mem_of_getElem? (i := 12) rfl) rfl, mb_4 (List.mem_of_getElem? (i := 228) rfl) rfl, fun _ => mb_4 (List.mem_of_getElem? (i := 229) rfl) rfl⟩
set_option maxRecDepth 100000 in
theorem mwR_31 : mwR mr_31 := ⟨mb_5 (List.mem_of_getElem? (i := 30) rfl) rfl, mb_1 (List.mem_of_getElem? (i := 12) rfl) rfl, mb_5 (List.mem_of_getElem? (i := 28) rfl) rfl, fun _ => mb_5 (List.mem_of_getElem? (i := 29) rfl) rfl⟩
set_option maxRecDepth 100000 in
theorem mwR_32 : mwR mr_32 := ⟨mb_4 (List.mem_of_getElem? (i := 236) rfl) rfl, mb_1 (List.mem_of_getElem? (i := 12) rfl) rfl, mb_4 (List.mem_of_getElem? (i := 235) rfl) rfl, fun _ => mb_0 (List.mem_of_getElem? (i := 42) rfl) rfl⟩
set_option maxRecDepth 100000 in
theorem mwR_33 : mwR mr_33 := ⟨mb_1 (List.mem_of_getElem? (i := 93) rfl) rfl, mb_1 (List.mem_of_getElem? (i := 5) rfl) rfl, mb_1 (List.mem_of_getElem? (i := 92) rfl) rfl, fun h => absurd h (by decide)⟩
set_option maxRecDepth 100000 in
theorem mwR_34 : mwR mr_34 := ⟨mb_3 (List.mem_of_getElem? (i := 38) rfl) rfl, mb_1 (List.mem_of_getElem? (i := 5) rfl) rfl, mb_3 (List.mem_of_getElem? (i := 36) rfl) rfl, fun _ => mb_3 (List.mem_of_getElem? (i := 37) rfl) rfl⟩
set_option maxRecDepth 100000 in
theorem mwR_35 : mwR mr_35 := ⟨mb_3 (List.mem_of_getElem? (i := 68) rfl) rfl, mb_1 (List.mem_of_getElem? (i := 5) rfl) rfl, mb_3 (List.mem_of_getElem? (i := 67) rfl) rfl, fun h => absurd h (by decide)⟩
set_option maxRecDepth 100000 in
theorem mwR_36 : mwR mr_36 := ⟨mb_3 (List.mem_of_getElem? (i := 42) rfl) rfl, mb_1 (List.mem_of_getElem? (i := 5) rfl) rfl, mb_3 (List.mem_of_getElem? (i := 41) rfl) rfl, fun _ => mb_0 (List.mem_of_getElem? (i := 5) rfl) rfl⟩
set_option maxRecDepth 100000 in
theorem mwR_37 : mwR mr_37 := ⟨mb_3 (List.mem_of_getElem? (i := 65) rfl) rfl, mb_1 (List.mem_of_getElem? (i := 5) rfl) rfl, mb_3 (List.mem_of_getElem? (i := 64) rfl) rfl, fun _ => mb_0 (List.mem_of_getElem? (i := 10) rfl) rfl⟩
set_option maxRecDepth 100000 in
theorem mwR_38 : mwR mr_38 := ⟨mb_3 (List.mem_of_getElem? (i := 50) rfl) rfl, mb_1 (List.mem_of_getElem? (i := 5) rfl) rfl, mb_3 (List.mem_of_getElem? (i := 49) rfl) rfl, fun _ => mb_0 (List.mem_of_getElem? (i := 7) rfl) rfl⟩
set_option maxRecDepth 100000 in
theorem mwR_39 : mwR mr_39 := ⟨mb_3 (List.mem_of_getElem? (i := 61) rfl) rfl, mb_1 (List.mem_of_getElem? (i := 5) rfl) rfl, mb_3 (List.mem_of_getElem? (i := 60) rfl) rfl, fun _ => mb_0 (List.mem_of_getElem? (i := 9) rfl) rfl⟩
set_option maxRecDepth 100000 in
theorem mwR_40 : mwR mr_40 := ⟨mb_3 (List.mem_of_getElem? (i := 54) rfl) rfl, mb_1 (List.mem_of_getElem? (i := 5) rfl) rfl, mb_3 (List.mem_of_getElem? (i := 53) rfl) rfl, fun _ => mb_0 (List.mem_of_getElem? (i := 8) rfl) rfl⟩
set_option maxRecDepth 100000 in
theorem mwR_41 : mwR mr_41 := ⟨mb_3 (List.mem_of_getElem? (i := 46) rfl) rfl, mb_1 (List.mem_of_getElem? (i := 5) rfl) rfl, mb_3 (List.mem_of_getElem? (i := 45) rfl) rfl, fun _ => mb_0 (List.mem_of_getElem? (i := 6) rfl) rfl⟩
set_option maxRecDepth 100000 in
theorem mwR_42 : mwR mr_42 := ⟨mb_3 (List.mem_of_getElem? (i := 72) rfl) rfl, mb_1 (List.mem_of_getElem? (i := 5) rfl) rfl, mb_3 (List.mem_of_getElem? (i := 71) rfl) rfl, fun _ => mb_0 (List.mem_of_getElem? (i := 11) rfl) rfl⟩
set_option maxRecDepth 100000 in
theorem mwR_43 : mwR mr_43 := ⟨mb_3 (List.mem_of_getElem? (i := 81) rfl) rfl, mb_1 (List.mem_of_getElem? (i := 5) rfl) rfl, mb_3 (List.mem_of_getElem? (i := 80) rfl) rfl, fun _ => mb_0 (List.mem_of_getElem? (i := 12) rfl) rfl⟩
set_option maxRecDepth 100000 in
theorem mwR_44 : mwR mr_44 := ⟨mb_3 (List.mem_of_getElem? (i := 93) rfl) rfl, mb_1 (List.mem_of_getElem? (i := 5) rfl) rfl, mb_3 (List.mem_of_getElem? (i := 92) rfl) rfl, fun _ => mb_0 (List.mem_of_getElem? (i := 13) rfl) rfl⟩
set_option maxRecDepth 100000 in
theorem mwR_45 : mwR mr_45 := ⟨mb_3 (List.mem_of_getElem? (i := 101) rfl) rfl, mb_1 (List.mem_of_getElem? (i := 5) rfl) rfl, mb_3 (List.mem_of_getElem? (i := 99) rfl) rfl, fun _ => mb_3 (List.mem_of_getElem? (i := 100) rfl) rfl⟩
set_option maxRecDepth 100000 in
theorem mwR_46 : mwR mr_46 := ⟨mb_3 (List.mem_of_getElem? (i := 136) rfl) rfl, mb_1 (List.mem_of_getElem? (i := 5) rfl) rfl, mb_3 (List.mem_of_getElem? (i := 135) rfl) rfl, fun _ => mb_0 (List.mem_of_getElem? (i := 18) rfl) rfl⟩
set_option maxRecDepth 100000 in
theorem mwR_47 : mwR mr_47 := ⟨mb_3 (List.mem_of_getElem? (i := 140) rfl) rfl, mb_1 (List.mem_of_getElem? (i := 5) rfl) rfl, mb_3 (List.mem_of_getElem? (i := 139) rfl) rfl, fun _ => mb_0 (List.mem_of_getElem? (i := 19) rfl) rfl⟩
set_option maxRecDepth 100000 in
theorem mwR_48 : mwR mr_48 := ⟨mb_5 (List.mem_of_getElem? (i := 110) rfl) rfl, mb_1 (List.mem_of_getElem? (i := 5) rfl) rfl, mb_5 (List.mem_of_getElem? (i := 108) rfl) rfl, fun _ => mb_5 (List.mem_of_getElem? (i := 109) rfl) rfl⟩
set_option maxRecDepth 100000 in
theorem mwR_49 : mwR mr_49 := ⟨mb_3 (List.mem_of_getElem? (i := 176) rfl) rfl, mb_1 (List.mem_of_getElem? (i := 5) rfl) rfl, mb_3 (List.mem_of_getElem? (i := 175) rfl) rfl, fun _ => mb_0 (List.mem_of_getElem? (i := 21) rfl) rfl⟩
set_option maxRecDepth 100000 in
theorem mwR_50 : mwR mr_50 := ⟨mb_3 (List.mem_of_getElem? (i := 172) rfl) rfl, mb_1 (List.mem_of_getElem? (i := 5) rfl) rfl, mb_3 (List.mem_of_getElem? (i := 170) rfl) rfl, fun _ => mb_3 (List.mem_of_getElem? (i := 171) rfl) rfl⟩
set_option maxRecDepth 100000 in
theorem mwR_51 : mwR mr_51 := ⟨mb_3 (List.mem_of_getElem? (i := 180) rfl) rfl, mb_1 (List.mem_of_getElem? (i := 5) rfl) rfl, mb_3 (List.mem_of_getElem? (i := 178) rfl) rfl, fun _ => mb_3 (List.mem_of_getElem? (i := 179) rfl) rfl⟩
set_option maxRecDepth 100000 in
theorem mwR_52 : mwR mr_52 := ⟨mb_4 (List.mem_of_getElem? (i := 115) rfl) rfl, mb_1 (List.mem_of_getElem? (i := 5) rfl) rfl, mb_4 (List.mem_of_getElem? (i := 113) rfl) rfl, fun _ => mb_4 (List.mem_of_getElem? (i := 114) rfl) rfl⟩
set_option maxRecDepth 100000 in
theorem mwR_53 : mwR mr_53 := ⟨mb_5 (List.mem_of_getElem? (i := 67) rfl) rfl, mb_1 (List.mem_of_getElem? (i := 5) rfl) rfl, mb_5 (List.mem_of_getElem? (i := 65) rfl) rfl, fun _ => mb_5 (List.mem_of_getElem? (i := 66) rfl) rfl⟩
set_option maxRecDepth 100000 in
theorem mwR_54 : mwR mr_54 := ⟨mb_5 (List.mem_of_getElem? (i := 55) rfl) rfl, mb_1 (List.mem_of_getElem? (i := 5) rfl) rfl, mb_5 (List.mem_of_getElem? (i := 53) rfl) rfl, fun _ => mb_5 (List.mem_of_getElem? (i := 54) rfl) rfl⟩
set_option maxRecDepth 100000 in
theorem mwR_55 : mwR mr_55 := ⟨mb_3 (List.mem_of_getElem? (i := 238) rfl) rfl, mb_1 (List.mem_of_getElem? (i := 5) rfl) rfl, mb_3 (List.mem_of_getElem? (i := 236) rfl) rfl, fun _ => mb_3 (List.mem_of_getElem? (i := 237) rfl) rfl⟩
set_option maxRecDepth 100000 in
theorem mwR_56 : mwR mr_56 := ⟨mb_4 (List.mem_of_getElem? (i := 47) rfl) rfl, mb_1 (List.mem_of_getElem? (i := 5) rfl) rfl, mb_4 (List.mem_of_getElem? (i := 46) rfl) rfl, fun _ => mb_0 (List.mem_of_getElem? (i := 24) rfl) rfl⟩
set_option maxRecDepth 100000 in
theorem mwR_57 : mwR mr_57 := ⟨mb_4 (List.mem_of_getElem? (i := 51) rfl) rfl, mb_1 (List.mem_of_getElem? (i := 5) rfl) rfl, mb_4 (List.mem_of_getElem? (i := 50) rfl) rfl, fun _ => mb_0 (List.mem_of_getElem? (i := 25) rfl) rfl⟩
set_option maxRecDepth 100000 in
theorem mwR_58 : mwR mr_58 := ⟨mb_1 (List.mem_of_getElem? (i := 226) rfl) rfl, mb_1 (List.mem_of_getElem? (i := 9) rfl) rfl, mb_1 (List.mem_of_getElem? (i := 225) rfl) rfl, fun h => absurd h (by decide)⟩
set_option maxRecDepth 100000 in
theorem mwR_59 : mwR mr_59 := ⟨mb_3 (List.mem_of_getElem? (i := 230) rfl) rfl, mb_1 (List.mem_of_getElem? (i := 9) rfl) rfl, mb_3 (List.mem_of_getElem? (i := 228) rfl) rfl, fun _ => mb_3 (List.mem_of_getElem? (i := 229) rfl) rfl⟩
set_option maxRecDepth 100000 in
theorem mwR_60 : mwR mr_60 := ⟨mb_3 (List.mem_of_getElem? (i := 234) rfl) rfl, mb_1 (List.mem_of_getElem? (i := 9) rfl) rfl, mb_3 (List.mem_of_getElem? (i := 232) rfl) rfl, fun _ => mb_3 (List.mem_of_getElem? (i := 233) rfl) rfl⟩
set_option maxRecDepth 100000 in
theorem mwR_61 : mwR mr_61 := ⟨mb_4 (List.mem_of_getElem? (i := 72) rfl) rfl, mb_1 (List.mem_of_getElem? (i := 9) rfl) rfl, mb_4 (List.mem_of_getElem? (i := 71) rfl) rfl, fun _ => mb_0 (List.mem_of_getElem? (i := 26) rfl) rfl⟩
set_option maxRecDepth 100000 in
theorem mwR_62 : mwR mr_62 := ⟨mb_1 (List.mem_of_getElem? (i := 99) rfl) rfl, mb_1 (List.mem_of_getElem? (i := 6) rfl) rfl, mb_1 (List.mem_of_getElem? (i := 98) rfl) rfl, fun h => absurd h (by decide)⟩
set_option maxRecDepth 100000 in
theorem mwR_63 : mwR mr_63 := ⟨mb_3 (List.mem_of_getElem? (i := 127) rfl) rfl, mb_1 (List.mem_of_getElem? (i := 6) rfl) rfl, mb_3 (List.mem_of_getElem? (i := 126) rfl) rfl, fun h => absurd h (by decide)⟩
set_option maxRecDepth 100000 in
theorem mwR_64 : mwR mr_64 := ⟨mb_3 (List.mem_of_getElem? (i := 105) rfl) rfl, mb_1 (List.mem_of_getElem? (i := 6) rfl) rfl, mb_3 (List.mem_of_getElem? (i := 103) rfl) rfl, fun _ => mb_3 (List.mem_of_getElem? (i := 104) rfl) rfl⟩
set_option maxRecDepth 100000 in
theorem mwR_65 : mwR mr_65 := ⟨mb_3 (List.mem_of_getElem? (i := 115) rfl) rfl, mb_1 (List.mem_of_getElem? (i := 6) rfl) rfl, mb_3 (List.mem_of_getElem? (i := 114) rfl) rfl, fun h => absurd h (by decide)⟩
set_option maxRecDepth 100000 in
theorem mwR_66 : mwR mr_66 := ⟨mb_3 (List.mem_of_getElem? (i := 119) rfl) rfl, mb_1 (List.mem_of_getElem? (i := 6) rfl) rfl, mb_3 (List.mem_of_getElem? (i := 118) rfl) rfl, fun _ => mb_0 (List.mem_of_getElem? (i := 15) rfl) rfl⟩
set_option maxRecDepth 100000 in
theorem mwR_67 : mwR mr_67 := ⟨mb_3 (List.mem_of_getElem? (i := 109) rfl) rfl, mb_1 (List.mem_of_getElem? (i := 6) rfl) rfl, mb_3 (List.mem_of_getElem? (i := 108) rfl) rfl, fun _ => mb_0 (List.mem_of_getElem? (i := 14) rfl) rfl⟩
set_option maxRecDepth 100000 in
theorem mwR_68 : mwR mr_68 := ⟨mb_3 (List.mem_of_getElem? (i := 124) rfl) rfl, mb_1 (List.mem_of_getElem? (i := 6) rfl) rfl, mb_3 (List.mem_of_getElem? (i := 123) rfl) rfl, fun _ => mb_0 (List.mem_of_getElem? (i := 16) rfl) rfl⟩
set_option maxRecDepth 100000 in
theorem mwR_69 : mwR mr_69 := ⟨mb_3 (List.mem_of_getElem? (i := 131) rfl) rfl, mb_1 (List.mem_of_getElem? (i := 6) rfl) rfl, mb_3 (List.mem_of_getElem? (i := 130) rfl) rfl, fun _ => mb_0 (List.mem_of_getElem? (i := 17) rfl) rfl⟩
set_option maxRecDepth 100000 in
theorem mwR_70 : mwR mr_70 := ⟨mb_1 (List.mem_of_getElem? (i := 31) rfl) rfl, mb_1 (List.mem_of_getElem? (i := 2) rfl) rfl, mb_1 (List.mem_of_getElem? (i := 30) rfl) rfl, fun h => absurd h (by decide)⟩
set_option maxRecDepth 100000 in
theorem mwR_71 : mwR mr_71 := ⟨mb_3 (List.mem_of_getElem? (i := 204) rfl) rfl, mb_1 (List.mem_of_getElem? (i := 2) rfl) rfl, mb_3 (List.mem_of_getElem? (i := 202) rfl) rfl, fun _ => mb_3 (List.mem_of_getElem? (i := 203) rfl) rfl⟩
set_option maxRecDepth 100000 in
theorem mwR_72 : mwR mr_72 := ⟨mb_3 (List.mem_of_getElem? (i := 188) rfl) rfl, mb_1 (List.mem_of_getElem? (i := 2) rfl) rfl, mb_3 (List.mem_of_getElem? (i := 186) rfl) rfl, fun _ => mb_3 (List.mem_of_getElem? (i := 187) rfl) rfl⟩
set_option maxRecDepth 100000 in
theorem mwR_73 : mwR mr_73 := ⟨mb_3 (List.mem_of_getElem? (i := 212) rfl) rfl, mb_1 (List.mem_of_getElem? (i := 2) rfl) rfl, mb_3 (List.mem_of_getElem? (i := 210) rfl) rfl, fun _ => mb_3 (List.mem_of_getElem? (i := 211) rfl) rfl⟩
set_option maxRecDepth 100000 in
theorem mwR_74 : mwR mr_74 := ⟨mb_4 (List.mem_of_getElem? (i := 124) rfl) rfl, mb_1 (List.mem_of_getElem? (i := 2) rfl) rfl, mb_4 (List.mem_of_getElem? (i := 122) rfl) rfl, fun _ => mb_4 (List.mem_of_getElem? (i := 123) rfl) rfl⟩
set_option maxRecDepth 100000 in
theorem mwR_75 : mwR mr_75 := ⟨mb_4 (List.mem_of_getElem? (i := 64) rfl) rfl, mb_1 (List.mem_of_getElem? (i := 2) rfl) rfl, mb_4 (List.mem_of_getElem? (i := 62) rfl) rfl, fun _ => mb_4 (List.mem_of_getElem? (i := 63) rfl) rfl⟩
set_option maxRecDepth 100000 in
theorem mwR_76 : mwR mr_76 := ⟨mb_5 (List.mem_of_getElem? (i := 138) rfl) rfl, mb_1 (List.mem_of_getElem? (i := 2) rfl) rfl, mb_5 (List.mem_of_getElem? (i := 136) rfl) rfl, fun _ => mb_5 (List.mem_of_getElem? (i := 137) rfl) rfl⟩
set_option maxRecDepth 100000 in
theorem mwR_77 : mwR mr_77 := ⟨mb_4 (List.mem_of_getElem? (i := 54) rfl) rfl, mb_1 (List.mem_of_getElem? (i := 2) rfl) rfl, mb_4 (List.mem_of_getElem? (i := 53) rfl) rfl, fun h => absurd h (by decide)⟩
set_option maxRecDepth 100000 in
theorem mwR_78 : mwR mr_78 := ⟨mb_4 (List.mem_of_getElem? (i := 98) rfl) rfl, mb_1 (List.mem_of_getElem? (i := 2) rfl) rfl, mb_4 (List.mem_of_getElem? (i := 96) rfl) rfl, fun _ => mb_4 (List.mem_of_getElem? (i := 97) rfl) rfl⟩
set_option maxRecDepth 100000 in
theorem mwR_79 : mwR mr_79 := ⟨mb_5 (List.mem_of_getElem? (i := 82) rfl) rfl, mb_1 (List.mem_of_getElem? (i := 2) rfl) rfl, mb_5 (List.mem_of_getElem? (i := 80) rfl) rfl, fun _ => mb_5 (List.mem_of_getElem? (i := 81) rfl) rfl⟩
set_option maxRecDepth 100000 in
theorem mwR_80 : mwR mr_80 := ⟨mb_1 (List.mem_of_getElem? (i := 60) rfl) rfl, mb_1 (List.mem_of_getElem? (i := 4) rfl) rfl, mb_1 (List.mem_of_getElem? (i := 59) rfl) rfl, fun h => absurd h (by decide)⟩
set_option maxRecDepth 100000 in
theorem mwR_81 : mwR mr_81 := ⟨mb_4 (List.mem_of_getElem? (i := 141) rfl) rfl, mb_1 (List.mem_of_getElem? (i := 4) rfl) rfl, mb_4 (List.mem_of_getElem? (i := 140) rfl) rfl, fun _ => mb_0 (List.mem_of_getElem? (i := 32) rfl) rfl⟩
set_option maxRecDepth 100000 in
theorem mwR_82 : mwR mr_82 := ⟨mb_4 (List.mem_of_getElem? (i := 178) rfl) rfl, mb_1 (List.mem_of_getElem? (i := 4) rfl) rfl, mb_4 (List.mem_of_getElem? (i := 176) rfl) rfl, fun _ => mb_4 (List.mem_of_getElem? (i := 177) rfl) rfl⟩
set_option maxRecDepth 100000 in
theorem mwR_83 : mwR mr_83 := ⟨mb_4 (List.mem_of_getElem? (i := 182) rfl) rfl, mb_1 (List.mem_of_getElem? (i := 4) rfl) rfl, mb_4 (List.mem_of_getElem? (i := 181) rfl) rfl, fun _ => mb_0 (List.mem_of_getElem? (i := 35) rfl) rfl⟩
set_option maxRecDepth 100000 in
theorem mwR_84 : mwR mr_84 := ⟨mb_4 (List.mem_of_getElem? (i := 191) rfl) rfl, mb_1 (List.mem_of_getElem? (i := 4) rfl) rfl, mb_4 (List.mem_of_getElem? (i := 190) rfl) rfl, fun _ => mb_0 (List.mem_of_getElem? (i := 37) rfl) rfl⟩
set_option maxRecDepth 100000 in
theorem mwR_85 : mwR mr_85 := ⟨mb_4 (List.mem_of_getElem? (i := 186) rfl) rfl, mb_1 (List.mem_of_getElem? (i := 4) rfl) rfl, mb_4 (List.mem_of_getElem? (i := 185) rfl) rfl, fun _ => mb_0 (List.mem_of_getElem? (i := 36) rfl) rfl⟩
set_option maxRecDepth 100000 in
theorem mwR_86 : mwR mr_86 := ⟨mb_4 (List.mem_of_getElem? (i := 196) rfl) rfl, mb_1 (List.mem_of_getElem? (i := 4) rfl) rfl, mb_4 (List.mem_of_getElem? (i := 195) rfl) rfl, fun _ => mb_0 (List.mem_of_getElem? (i := 38) rfl) rfl⟩
set_option maxRecDepth 100000 in
theorem mwR_87 : mwR mr_87 := ⟨mb_4 (List.mem_of_getElem? (i := 201) rfl) rfl, mb_1 (List.mem_of_getElem? (i := 4) rfl) rfl, mb_4 (List.mem_of_getElem? (i := 200) rfl) rfl, fun _ => mb_0 (List.mem_of_getElem? (i := 39) rfl) rfl⟩
set_option maxRecDepth 100000 in
theorem mwR_88 : mwR mr_88 := ⟨mb_4 (List.mem_of_getElem? (i := 205) rfl) rfl, mb_1 (List.mem_of_getElem? (i := 4) rfl) rfl, mb_4 (List.mem_of_getElem? (i := 204) rfl) rfl, fun _ => mb_0 (List.mem_of_getElem? (i := 40) rfl) rfl⟩
set_option maxRecDepth 100000 in
theorem mwR_89 : mwR mr_89 := ⟨mb_4 (List.mem_of_getElem? (i := 137) rfl) rfl, mb_1 (List.mem_of_getElem? (i := 4) rfl) rfl, mb_4 (List.mem_of_getElem? (i := 135) rfl) rfl, fun _ => mb_4 (List.mem_of_getElem? (i := 136) rfl) rfl⟩
set_option maxRecDepth 100000 in
theorem mwR_90 : mwR mr_90 := ⟨mb_1 (List.mem_of_getElem? (i := 155) rfl) rfl, mb_1 (List.mem_of_getElem? (i := 8) rfl) rfl, mb_1 (List.mem_of_getElem? (i := 154) rfl) rfl, fun h => absurd h (by decide)⟩
set_option maxRecDepth 100000 in
theorem mwR_91 : mwR mr_91 := ⟨mb_3 (List.mem_of_getElem? (i := 17) rfl) rfl, mb_1 (List.mem_of_getElem? (i := 8) rfl) rfl, mb_3 (List.mem_of_getElem? (i := 15) rfl) rfl, fun _ => mb_3 (List.mem_of_getElem? (i := 16) rfl) rfl⟩
set_option maxRecDepth 100000 in
theorem mwR_92 : mwR mr_92 := ⟨mb_2 (List.mem_of_getElem? (i := 218) rfl) rfl, mb_1 (List.mem_of_getElem? (i := 8) rfl) rfl, mb_2 (List.mem_of_getElem? (i := 216) rfl) rfl, fun _ => mb_2 (List.mem_of_getElem? (i := 217) rfl) rfl⟩
set_option maxRecDepth 100000 in
theorem mwR_93 : mwR mr_93 := ⟨mb_3 (List.mem_of_getElem? (i := 30) rfl) rfl, mb_1 (List.mem_of_getElem? (i := 8) rfl) rfl, mb_3 (List.mem_of_getElem? (i := 28) rfl) rfl, fun _ => mb_3 (List.mem_of_getElem? (i := 29) rfl) rfl⟩
set_option maxRecDepth 100000 in
theorem mwR_94 : mwR mr_94 := ⟨mb_2 (List.mem_of_getElem? (i := 214) rfl) rfl, mb_1 (List.mem_of_getElem? (i := 8) rfl) rfl, mb_2 (List.mem_of_getElem? (i := 212) rfl) rfl, fun _ => mb_2 (List.mem_of_getElem? (i := 213) rfl) rfl⟩
set_option maxRecDepth 100000 in
theorem mwR_95 : mwR mr_95 := ⟨mb_3 (List.mem_of_getElem? (i := 85) rfl) rfl, mb_1 (List.mem_of_getElem? (i := 8) rfl) rfl, mb_3 (List.mem_of_getElem? (i := 83) rfl) rfl, fun _ => mb_3 (List.mem_of_getElem? (i := 84) rfl) rfl⟩
set_option maxRecDepth 100000 in
theorem mwR_96 : mwR mr_96 := ⟨mb_3 (List.mem_of_getElem? (i := 89) rfl) rfl, mb_1 (List.mem_of_getElem? (i := 8) rfl) rfl, mb_3 (List.mem_of_getElem? (i := 87) rfl) rfl, fun _ => mb_3 (List.mem_of_getElem? (i := 88) rfl) rfl⟩
set_option maxRecDepth 100000 in
theorem mwR_97 : mwR mr_97 := ⟨mb_3 (List.mem_of_getElem? (i := 97) rfl) rfl, mb_1 (List.mem_of_getElem? (i := 8) rfl) rfl, mb_3 (List.mem_of_getElem? (i := 95) rfl) rfl, fun _ => mb_3 (List.mem_of_getElem? (i := 96) rfl) rfl⟩
set_option maxRecDepth 100000 in
theorem mwR_98 : mwR mr_98 := ⟨mb_5 (List.mem_of_getElem? (i := 124) rfl) rfl, mb_1 (List.mem_of_getElem? (i := 8) rfl) rfl, mb_5 (List.mem_of_getElem? (i := 122) rfl) rfl, fun _ => mb_5 (List.mem_of_getElem? (i := 123) rfl) rfl⟩
set_option maxRecDepth 100000 in
theorem mwR_99 : mwR mr_99 := ⟨mb_5 (List.mem_of_getElem? (i := 151) rfl) rfl, mb_1 (List.mem_of_getElem? (i := 8) rfl) rfl, mb_5 (List.mem_of_getElem? (i := 149) rfl) rfl, fun _ => mb_5 (List.mem_of_getElem? (i := 150) rfl) rfl⟩
set_option maxRecDepth 100000 in
theorem mwR_100 : mwR mr_100 := ⟨mb_2 (List.mem_of_getElem? (i := 46) rfl) rfl, mb_1 (List.mem_of_getElem? (i := 11) rfl) rfl, mb_2 (List.mem_of_getElem? (i := 45) rfl) rfl, fun h => absurd h (by decide)⟩
set_option maxRecDepth 100000 in
theorem mwR_101 : mwR mr_101 := ⟨mb_4 (List.mem_of_getElem? (i := 89) rfl) rfl, mb_1 (List.mem_of_getElem? (i := 11) rfl) rfl, mb_4 (List.mem_of_getElem? (i := 87) rfl) rfl, fun _ => mb_4 (List.mem_of_getElem? (i := 88) rfl) rfl⟩
set_option maxRecDepth 100000 in
theorem mwR_102 : mwR mr_102 := ⟨mb_4 (List.mem_of_getElem? (i := 106) rfl) rfl, mb_1 (List.mem_of_getElem? (i := 11) rfl) rfl, mb_4 (List.mem_of_getElem? (i := 104) rfl) rfl, fun _ => mb_4 (List.mem_of_getElem? (i := 105) rfl) rfl⟩
set_option maxRecDepth 100000 in
theorem mwR_103 : mwR mr_103 := ⟨mb_4 (List.mem_of_getElem? (i := 149) rfl) rfl, mb_1 (List.mem_of_getElem? (i := 11) rfl) rfl, mb_4 (List.mem_of_getElem? (i := 147) rfl) rfl, fun _ => mb_4 (List.mem_of_getElem? (i := 148) rfl) rfl⟩
set_option maxRecDepth 100000 in
theorem mwR_104 : mwR mr_104 := ⟨mb_4 (List.mem_of_getElem? (i := 110) rfl) rfl, mb_1 (List.mem_of_getElem? (i := 11) rfl) rfl, mb_4 (List.mem_of_getElem? (i := 109) rfl) rfl, fun _ => mb_0 (List.mem_of_getElem? (i := 29) rfl) rfl⟩
set_option maxRecDepth 100000 in
theorem mwR_105 : mwR mr_105 := ⟨mb_4 (List.mem_of_getElem? (i := 119) rfl) rfl, mb_1 (List.mem_of_getElem? (i := 11) rfl) rfl, mb_4 (List.mem_of_getElem? (i := 118) rfl) rfl, fun _ => mb_0 (List.mem_of_getElem? (i := 30) rfl) rfl⟩
set_option maxRecDepth 100000 in
theorem mwR_106 : mwR mr_106 := ⟨mb_4 (List.mem_of_getElem? (i := 133) rfl) rfl, mb_1 (List.mem_of_getElem? (i := 11) rfl) rfl, mb_4 (List.mem_of_getElem? (i := 132) rfl) rfl, fun _ => mb_0 (List.mem_of_getElem? (i := 31) rfl) rfl⟩
set_option maxRecDepth 100000 in
theorem mwR_107 : mwR mr_107 := ⟨mb_1 (List.mem_of_getElem? (i := 21) rfl) rfl, mb_1 (List.mem_of_getElem? (i := 1) rfl) rfl, mb_1 (List.mem_of_getElem? (i := 20) rfl) rfl, fun h => absurd h (by decide)⟩
set_option maxRecDepth 100000 in
theorem mwR_108 : mwR mr_108 := ⟨mb_2 (List.mem_of_getElem? (i := 182) rfl) rfl, mb_1 (List.mem_of_getElem? (i := 1) rfl) rfl, mb_2 (List.mem_of_getElem? (i := 180) rfl) rfl, fun _ => mb_2 (List.mem_of_getElem? (i := 181) rfl) rfl⟩
set_option maxRecDepth 100000 in
theorem mwR_109 : mwR mr_109 := ⟨mb_2 (List.mem_of_getElem? (i := 194) rfl) rfl, mb_1 (List.mem_of_getElem? (i := 1) rfl) rfl, mb_2 (List.mem_of_getElem? (i := 192) rfl) rfl, fun _ => mb_2 (List.mem_of_getElem? (i := 193) rfl) rfl⟩
set_option maxRecDepth 100000 in
theorem mwR_110 : mwR mr_110 := ⟨mb_2 (List.mem_of_getElem? (i := 222) rfl) rfl, mb_1 (List.mem_of_getElem? (i := 1) rfl) rfl, mb_2 (List.mem_of_getElem? (i := 220) rfl) rfl, fun _ => mb_2 (List.mem_of_getElem? (i := 221) rfl) rfl⟩
set_option maxRecDepth 100000 in
theorem mwR_111 : mwR mr_111 := ⟨mb_3 (List.mem_of_getElem? (i := 10) rfl) rfl, mb_1 (List.mem_of_getElem? (i := 1) rfl) rfl, mb_3 (List.mem_of_getElem? (i := 8) rfl) rfl, fun _ => mb_3 (List.mem_of_getElem? (i := 9) rfl) rfl⟩
set_option maxRecDepth 100000 in
theorem mwR_112 : mwR mr_112 := ⟨mb_3 (List.mem_of_getElem? (i := 22) rfl) rfl, mb_1 (List.mem_of_getElem? (i := 1) rfl) rfl, mb_3 (List.mem_of_getElem? (i := 20) rfl) rfl, fun _ => mb_3 (List.mem_of_getElem? (i := 21) rfl) rfl⟩
set_option maxRecDepth 100000 in
theorem mwR_113 : mwR mr_113 := ⟨mb_3 (List.mem_of_getElem? (i := 34) rfl) rfl, mb_1 (List.mem_of_getElem? (i := 1) rfl) rfl, mb_3 (List.mem_of_getElem? (i := 32) rfl) rfl, fun _ => mb_3 (List.mem_of_getElem? (i := 33) rfl) rfl⟩
set_option maxRecDepth 100000 in
theorem mwR_114 : mwR mr_114 := ⟨mb_3 (List.mem_of_getElem? (i := 144) rfl) rfl, mb_1 (List.mem_of_getElem? (i := 1) rfl) rfl, mb_3 (List.mem_of_getElem? (i := 142) rfl) rfl, fun _ => mb_3 (List.mem_of_getElem? (i := 143) rfl) rfl⟩
set_option maxRecDepth 100000 in
theorem mwR_115 : mwR mr_115 := ⟨mb_3 (List.mem_of_getElem? (i := 148) rfl) rfl, mb_1 (List.mem_of_getElem? (i := 1) rfl) rfl, mb_3 (List.mem_of_getElem? (i := 146) rfl) rfl, fun _ => mb_3 (List.mem_of_getElem? (i := 147) rfl) rfl⟩
set_option maxRecDepth 100000 in
theorem mwR_116 : mwR mr_116 := ⟨mb_3 (List.mem_of_getElem? (i := 184) rfl) rfl, mb_1 (List.mem_of_getElem? (i := 1) rfl) rfl, mb_3 (List.mem_of_getElem? (i := 182) rfl) rfl, fun _ => mb_3 (List.mem_of_getElem? (i := 183) rfl) rfl⟩
set_option maxRecDepth 100000 in
theorem mwR_117 : mwR mr_117 := ⟨mb_3 (List.mem_of_getElem? (i := 192) rfl) rfl, mb_1 (List.mem_of_getElem? (i := 1) rfl) rfl, mb_3 (List.mem_of_getElem? (i := 190) rfl) rfl, fun _ => mb_3 (List.mem_of_getElem? (i := 191) rfl) rfl⟩
set_option maxRecDepth 100000 in
theorem mwR_118 : mwR mr_118 := ⟨mb_3 (List.mem_of_getElem? (i := 197) rfl) rfl, mb_1 (List.mem_of_getElem? (i := 1) rfl) rfl, mb_3 (List.mem_of_getElem? (i := 195) rfl) rfl, fun _ => mb_3 (List.mem_of_getElem? (i := 196) rfl) rfl⟩
set_option maxRecDepth 100000 in
theorem mwR_119 : mwR mr_119 := ⟨mb_3 (List.mem_of_getElem? (i := 219) rfl) rfl, mb_1 (List.mem_of_getElem? (i := 1) rfl) rfl, mb_3 (List.mem_of_getElem? (i := 217) rfl) rfl, fun _ => mb_3 (List.mem_of_getElem? (i := 218) rfl) rfl⟩
set_option maxRecDepth 100000 in
theorem mwR_120 : mwR mr_120 := ⟨mb_4 (List.mem_of_getElem? (i := 82) rfl) rfl, mb_1 (List.mem_of_getElem? (i := 1) rfl) rfl, mb_4 (List.mem_of_getElem? (i := 80) rfl) rfl, fun _ => mb_4 (List.mem_of_getElem? (i := 81) rfl) rfl⟩
set_option maxRecDepth 100000 in
theorem mwR_121 : mwR mr_121 := ⟨mb_4 (List.mem_of_getElem? (i := 153) rfl) rfl, mb_1 (List.mem_of_getElem? (i := 1) rfl) rfl, mb_4 (List.mem_of_getElem? (i := 151) rfl) rfl, fun _ => mb_4 (List.mem_of_getElem? (i := 152) rfl) rfl⟩
set_option maxRecDepth 100000 in
theorem mwR_122 : mwR mr_122 := ⟨mb_4 (List.mem_of_getElem? (i := 162) rfl) rfl, mb_1 (List.mem_of_getElem? (i := 1) rfl) rfl, mb_4 (List.mem_of_getElem? (i := 160) rfl) rfl, fun _ => mb_4 (List.mem_of_getElem? (i := 161) rfl) rfl⟩
set_option maxRecDepth 100000 in
theorem mwR_123 : mwR mr_123 := ⟨mb_4 (List.mem_of_getElem? (i := 166) rfl) rfl, mb_1 (List.mem_of_getElem? (i := 1) rfl) rfl, mb_4 (List.mem_of_getElem? (i := 164) rfl) rfl, fun _ => mb_4 (List.mem_of_getElem? (i := 165) rfl) rfl⟩
set_option maxRecDepth 100000 in
theorem mwR_124 : mwR mr_124 := ⟨mb_4 (List.mem_of_getElem? (i := 170) rfl) rfl, mb_1 (List.mem_of_getElem? (i := 1) rfl) rfl, mb_4 (List.mem_of_getElem? (i := 168) rfl) rfl, fun _ => mb_4 (List.mem_of_getElem? (i := 169) rfl) rfl⟩
set_option maxRecDepth 100000 in
theorem mwR_125 : mwR mr_125 := ⟨mb_4 (List.mem_of_getElem? (i := 209) rfl) rfl, mb_1 (List.mem_of_getElem? (i := 1) rfl) rfl, mb_4 (List.mem_of_getElem? (i := 207) rfl) rfl, fun _ => mb_4 (List.mem_of_getElem? (i := 208) rfl) rfl⟩
set_option maxRecDepth 100000 in
theorem mwR_126 : mwR mr_126 := ⟨mb_4 (List.mem_of_getElem? (i := 222) rfl) rfl, mb_1 (List.mem_of_getElem? (i := 1) rfl) rfl, mb_4 (List.mem_of_getElem? (i := 220) rfl) rfl, fun _ => mb_4 (List.mem_of_getElem? (i := 221) rfl) rfl⟩
set_option maxRecDepth 100000 in
theorem mwR_127 : mwR mr_127 := ⟨mb_5 (List.mem_of_getElem? (i := 26) rfl) rfl, mb_1 (List.mem_of_getElem? (i := 1) rfl) rfl, mb_5 (List.mem_of_getElem? (i := 24) rfl) rfl, fun _ => mb_5 (List.mem_of_getElem? (i := 25) rfl) rfl⟩
set_option maxRecDepth 100000 in
theorem mwR_128 : mwR mr_128 := ⟨mb_5 (List.mem_of_getElem? (i := 39) rfl) rfl, mb_1 (List.mem_of_getElem? (i := 1) rfl) rfl, mb_5 (List.mem_of_getElem? (i := 37) rfl) rfl, fun _ => mb_5 (List.mem_of_getElem? (i := 38) rfl) rfl⟩
set_option maxRecDepth 100000 in
theorem mwR_129 : mwR mr_129 := ⟨mb_5 (List.mem_of_getElem? (i := 47) rfl) rfl, mb_1 (List.mem_of_getElem? (i := 1) rfl) rfl, mb_5 (List.mem_of_getElem? (i := 45) rfl) rfl, fun _ => mb_5 (List.mem_of_getElem? (i := 46) rfl) rfl⟩
set_option maxRecDepth 100000 in
theorem mwR_130 : mwR mr_130 := ⟨mb_5 (List.mem_of_getElem? (i := 51) rfl) rfl, mb_1 (List.mem_of_getElem? (i := 1) rfl) rfl, mb_5 (List.mem_of_getElem? (i := 49) rfl) rfl, fun _ => mb_5 (List.mem_of_getElem? (i := 50) rfl) rfl⟩
set_option maxRecDepth 100000 in
theorem mwR_131 : mwR mr_131 := ⟨mb_5 (List.mem_of_getElem? (i := 62) rfl) rfl, mb_1 (List.mem_of_getElem? (i := 1) rfl) rfl, mb_5 (List.mem_of_getElem? (i := 60) rfl) rfl, fun _ => mb_5 (List.mem_of_getElem? (i := 61) rfl) rfl⟩
set_option maxRecDepth 100000 in
theorem mwR_132 : mwR mr_132 := ⟨mb_5 (List.mem_of_getElem? (i := 86) rfl) rfl, mb_1 (List.mem_of_getElem? (i := 1) rfl) rfl, mb_5 (List.mem_of_getElem? (i := 84) rfl) rfl, fun _ => mb_5 (List.mem_of_getElem? (i := 85) rfl) rfl⟩
set_option maxRecDepth 100000 in
theorem mwR_133 : mwR mr_133 := ⟨mb_5 (List.mem_of_getElem? (i := 90) rfl) rfl, mb_1 (List.mem_of_getElem? (i := 1) rfl) rfl, mb_5 (List.mem_of_getElem? (i := 88) rfl) rfl, fun _ => mb_5 (List.mem_of_getElem? (i := 89) rfl) rfl⟩
set_option maxRecDepth 100000 in
theorem mwR_134 : mwR mr_134 := ⟨mb_5 (List.mem_of_getElem? (i := 98) rfl) rfl, mb_1 (List.mem_of_getElem? (i := 1) rfl) rfl, mb_5 (List.mem_of_getElem? (i := 96) rfl) rfl, fun _ => mb_5 (List.mem_of_getElem? (i := 97) rfl) rfl⟩
set_option maxRecDepth 100000 in
theorem mwR_135 : mwR mr_135 := ⟨mb_5 (List.mem_of_getElem? (i := 102) rfl) rfl, mb_1 (List.mem_of_getElem? (i := 1) rfl) rfl, mb_5 (List.mem_of_getElem? (i := 100) rfl) rfl, fun _ => mb_5 (List.mem_of_getElem? (i := 101) rfl) rfl⟩
set_option maxRecDepth 100000 in
theorem mwR_136 : mwR mr_136 := ⟨mb_5 (List.mem_of_getElem? (i := 114) rfl) rfl, mb_1 (List.mem_of_getElem? (i := 1) rfl) rfl, mb_5 (List.mem_of_getElem? (i := 112) rfl) rfl, fun _ => mb_5 (List.mem_of_getElem? (i := 113) rfl) rfl⟩
set_option maxRecDepth 100000 in
theorem mwR_137 : mwR mr_137 := ⟨mb_5 (List.mem_of_getElem? (i := 134) rfl) rfl, mb_1 (List.mem_of_getElem? (i := 1) rfl) rfl, mb_5 (List.mem_of_getElem? (i := 132) rfl) rfl, fun _ => mb_5 (List.mem_of_getElem? (i := 133) rfl) rfl⟩
set_option maxRecDepth 100000 in
theorem mwR_138 : mwR mr_138 := ⟨mb_5 (List.mem_of_getElem? (i := 157) rfl) rfl, mb_1 (List.mem_of_getElem? (i := 1) rfl) rfl, mb_5 (List.mem_of_getElem? (i := 155) rfl) rfl, fun _ => mb_5 (List.mem_of_getElem? (i := 156) rfl) rfl⟩
set_option maxRecDepth 100000 in
theorem mwR_139 : mwR mr_139 := ⟨mb_2 (List.mem_of_getElem? (i := 186) rfl) rfl, mb_1 (List.mem_of_getElem? (i := 1) rfl) rfl, mb_2 (List.mem_of_getElem? (i := 185) rfl) rfl, fun _ => mb_0 (List.mem_of_getElem? (i := 0) rfl) rfl⟩
set_option maxRecDepth 100000 in
theorem mwR_140 : mwR mr_140 := ⟨mb_2 (List.mem_of_getElem? (i := 239) rfl) rfl, mb_1 (List.mem_of_getElem? (i := 1) rfl) rfl, mb_2 (List.mem_of_getElem? (i := 238) rfl) rfl, fun h => absurd h (by decide)⟩
set_option maxRecDepth 100000 in
theorem mwR_141 : mwR mr_141 := ⟨mb_4 (List.mem_of_getElem? (i := 20) rfl) rfl, mb_1 (List.mem_of_getElem? (i := 1) rfl) rfl, mb_4 (List.mem_of_getElem? (i := 19) rfl) rfl, fun h => absurd h (by decide)⟩
set_option maxRecDepth 100000 in
theorem mwR_142 : mwR mr_142 := ⟨mb_4 (List.mem_of_getElem? (i := 8) rfl) rfl, mb_1 (List.mem_of_getElem? (i := 1) rfl) rfl, mb_4 (List.mem_of_getElem? (i := 7) rfl) rfl, fun h => absurd h (by decide)⟩
set_option maxRecDepth 100000 in
theorem mwR_143 : mwR mr_143 := ⟨mb_4 (List.mem_of_getElem? (i := 26) rfl) rfl, mb_1 (List.mem_of_getElem? (i := 1) rfl) rfl, mb_4 (List.mem_of_getElem? (i := 25) rfl) rfl, fun h => absurd h (by decide)⟩
set_option maxRecDepth 100000 in
theorem mwR_144 : mwR mr_144 := ⟨mb_4 (List.mem_of_getElem? (i := 145) rfl) rfl, mb_1 (List.mem_of_getElem? (i := 1) rfl) rfl, mb_4 (List.mem_of_getElem? (i := 144) rfl) rfl, fun h => absurd h (by decide)⟩
set_option maxRecDepth 100000 in
theorem mwR_145 : mwR mr_145 := ⟨mb_2 (List.mem_of_getElem? (i := 235) rfl) rfl, mb_1 (List.mem_of_getElem? (i := 1) rfl) rfl, mb_2 (List.mem_of_getElem? (i := 234) rfl) rfl, fun h => absurd h (by decide)⟩
set_option maxRecDepth 100000 in
theorem mwR_146 : mwR mr_146 := ⟨mb_3 (List.mem_of_getElem? (i := 13) rfl) rfl, mb_1 (List.mem_of_getElem? (i := 1) rfl) rfl, mb_3 (List.mem_of_getElem? (i := 12) rfl) rfl, fun h => absurd h (by decide)⟩
set_option maxRecDepth 100000 in
theorem mwR_147 : mwR mr_147 := ⟨mb_2 (List.mem_of_getElem? (i := 232) rfl) rfl, mb_1 (List.mem_of_getElem? (i := 1) rfl) rfl, mb_2 (List.mem_of_getElem? (i := 231) rfl) rfl, fun h => absurd h (by decide)⟩
set_option maxRecDepth 100000 in
theorem mwR_148 : mwR mr_148 := ⟨mb_2 (List.mem_of_getElem? (i := 229) rfl) rfl, mb_1 (List.mem_of_getElem? (i := 1) rfl) rfl, mb_2 (List.mem_of_getElem? (i := 228) rfl) rfl, fun h => absurd h (by decide)⟩
set_option maxRecDepth 100000 in
theorem mwR_149 : mwR mr_149 := ⟨mb_3 (List.mem_of_getElem? (i := 222) rfl) rfl, mb_1 (List.mem_of_getElem? (i := 1) rfl) rfl, mb_3 (List.mem_of_getElem? (i := 221) rfl) rfl, fun h => absurd h (by decide)⟩
set_option maxRecDepth 100000 in
theorem mwR_150 : mwR mr_150 := ⟨mb_4 (List.mem_of_getElem? (i := 85) rfl) rfl, mb_1 (List.mem_of_getElem? (i := 1) rfl) rfl, mb_4 (List.mem_of_getElem? (i := 84) rfl) rfl, fun h => absurd h (by decide)⟩
set_option maxRecDepth 100000 in
theorem mwR_151 : mwR mr_151 := ⟨mb_4 (List.mem_of_getElem? (i := 212) rfl) rfl, mb_1 (List.mem_of_getElem? (i := 1) rfl) rfl, mb_4 (List.mem_of_getElem? (i := 211) rfl) rfl, fun h => absurd h (by decide)⟩
set_option maxRecDepth 100000 in
theorem mwR_152 : mwR mr_152 := ⟨mb_2 (List.mem_of_getElem? (i := 202) rfl) rfl, mb_1 (List.mem_of_getElem? (i := 1) rfl) rfl, mb_2 (List.mem_of_getElem? (i := 201) rfl) rfl, fun _ => mb_0 (List.mem_of_getElem? (i := 3) rfl) rfl⟩
set_option maxRecDepth 100000 in
theorem mwR_153 : mwR mr_153 := ⟨mb_2 (List.mem_of_getElem? (i := 190) rfl) rfl, mb_1 (List.mem_of_getElem? (i := 1) rfl) rfl, mb_2 (List.mem_of_getElem? (i := 189) rfl) rfl, fun _ => mb_0 (List.mem_of_getElem? (i := 1) rfl) rfl⟩
set_option maxRecDepth 100000 in
theorem mwR_154 : mwR mr_154 := ⟨mb_2 (List.mem_of_getElem? (i := 198) rfl) rfl, mb_1 (List.mem_of_getElem? (i := 1) rfl) rfl, mb_2 (List.mem_of_getElem? (i := 197) rfl) rfl, fun _ => mb_0 (List.mem_of_getElem? (i := 2) rfl) rfl⟩
set_option maxRecDepth 100000 in
theorem mwR_155 : mwR mr_155 := ⟨mb_2 (List.mem_of_getElem? (i := 226) rfl) rfl, mb_1 (List.mem_of_getElem? (i := 1) rfl) rfl, mb_2 (List.mem_of_getElem? (i := 225) rfl) rfl, fun _ => mb_0 (List.mem_of_getElem? (i := 4) rfl) rfl⟩
set_option maxRecDepth 100000 in
theorem mwR_156 : mwR mr_156 := ⟨mb_3 (List.mem_of_getElem? (i := 152) rfl) rfl, mb_1 (List.mem_of_getElem? (i := 1) rfl) rfl, mb_3 (List.mem_of_getElem? (i := 151) rfl) rfl, fun _ => mb_0 (List.mem_of_getElem? (i := 20) rfl) rfl⟩
set_option maxRecDepth 100000 in
theorem mwR_157 : mwR mr_157 := ⟨mb_4 (List.mem_of_getElem? (i := 157) rfl) rfl, mb_1 (List.mem_of_getElem? (i := 1) rfl) rfl, mb_4 (List.mem_of_getElem? (i := 156) rfl) rfl, fun _ => mb_0 (List.mem_of_getElem? (i := 33) rfl) rfl⟩
set_option maxRecDepth 100000 in
theorem mwR_158 : mwR mr_158 := ⟨mb_4 (List.mem_of_getElem? (i := 226) rfl) rfl, mb_1 (List.mem_of_getElem? (i := 1) rfl) rfl, mb_4 (List.mem_of_getElem? (i := 225) rfl) rfl, fun _ => mb_0 (List.mem_of_getElem? (i := 41) rfl) rfl⟩
set_option maxRecDepth 100000 in
theorem mwR_159 : mwR mr_159 := ⟨mb_3 (List.mem_of_getElem? (i := 200) rfl) rfl, mb_1 (List.mem_of_getElem? (i := 1) rfl) rfl, mb_3 (List.mem_of_getElem? (i := 199) rfl) rfl, fun h => absurd h (by decide)⟩
set_option maxRecDepth 100000 in
theorem mwR_160 : mwR mr_160 := ⟨mb_3 (List.mem_of_getElem? (i := 208) rfl) rfl, mb_1 (List.mem_of_getElem? (i := 1) rfl) rfl, mb_3 (List.mem_of_getElem? (i := 207) rfl) rfl, fun _ => mb_0 (List.mem_of_getElem? (i := 22) rfl) rfl⟩
set_option maxRecDepth 100000 in
theorem mwR_161 : mwR mr_161 := ⟨mb_4 (List.mem_of_getElem? (i := 78) rfl) rfl, mb_1 (List.mem_of_getElem? (i := 1) rfl) rfl, mb_4 (List.mem_of_getElem? (i := 77) rfl) rfl, fun _ => mb_0 (List.mem_of_getElem? (i := 27) rfl) rfl⟩
set_option maxRecDepth 100000 in
theorem mwR_162 : mwR mr_162 := ⟨mb_3 (List.mem_of_getElem? (i := 226) rfl) rfl, mb_1 (List.mem_of_getElem? (i := 1) rfl) rfl, mb_3 (List.mem_of_getElem? (i := 225) rfl) rfl, fun _ => mb_0 (List.mem_of_getElem? (i := 23) rfl) rfl⟩
set_option maxRecDepth 100000 in
theorem mwR_163 : mwR mr_163 := ⟨mb_5 (List.mem_of_getElem? (i := 94) rfl) rfl, mb_1 (List.mem_of_getElem? (i := 1) rfl) rfl, mb_5 (List.mem_of_getElem? (i := 93) rfl) rfl, fun _ => mb_0 (List.mem_of_getElem? (i := 49) rfl) rfl⟩
set_option maxRecDepth 100000 in
theorem mwR_164 : mwR mr_164 := ⟨mb_4 (List.mem_of_getElem? (i := 94) rfl) rfl, mb_1 (List.mem_of_getElem? (i := 1) rfl) rfl, mb_4 (List.mem_of_getElem? (i := 93) rfl) rfl, fun _ => mb_0 (List.mem_of_getElem? (i := 28) rfl) rfl⟩
set_option maxRecDepth 100000 in
theorem mwR_165 : mwR mr_165 := ⟨mb_5 (List.mem_of_getElem? (i := 106) rfl) rfl, mb_1 (List.mem_of_getElem? (i := 1) rfl) rfl, mb_5 (List.mem_of_getElem? (i := 105) rfl) rfl, fun _ => mb_0 (List.mem_of_getElem? (i := 50) rfl) rfl⟩
set_option maxRecDepth 100000 in
theorem mwR_166 : mwR mr_166 := ⟨mb_5 (List.mem_of_getElem? (i := 74) rfl) rfl, mb_1 (List.mem_of_getElem? (i := 1) rfl) rfl, mb_5 (List.mem_of_getElem? (i := 73) rfl) rfl, fun _ => mb_0 (List.mem_of_getElem? (i := 47) rfl) rfl⟩
set_option maxRecDepth 100000 in
theorem mwR_167 : mwR mr_167 := ⟨mb_5 (List.mem_of_getElem? (i := 78) rfl) rfl, mb_1 (List.mem_of_getElem? (i := 1) rfl) rfl, mb_5 (List.mem_of_getElem? (i := 77) rfl) rfl, fun _ => mb_0 (List.mem_of_getElem? (i := 48) rfl) rfl⟩
set_option maxRecDepth 100000 in
theorem mwR_168 : mwR mr_168 := ⟨mb_5 (List.mem_of_getElem? (i := 22) rfl) rfl, mb_1 (List.mem_of_getElem? (i := 1) rfl) rfl, mb_5 (List.mem_of_getElem? (i := 21) rfl) rfl, fun _ => mb_0 (List.mem_of_getElem? (i := 46) rfl) rfl⟩
set_option maxRecDepth 100000 in
theorem mwR_169 : mwR mr_169 := ⟨mb_4 (List.mem_of_getElem? (i := 174) rfl) rfl, mb_1 (List.mem_of_getElem? (i := 1) rfl) rfl, mb_4 (List.mem_of_getElem? (i := 173) rfl) rfl, fun _ => mb_0 (List.mem_of_getElem? (i := 34) rfl) rfl⟩
set_option maxRecDepth 100000 in
theorem mwR_170 : mwR mr_170 := ⟨mb_5 (List.mem_of_getElem? (i := 128) rfl) rfl, mb_1 (List.mem_of_getElem? (i := 1) rfl) rfl, mb_5 (List.mem_of_getElem? (i := 127) rfl) rfl, fun h => absurd h (by decide)⟩
set_option maxRecDepth 100000 in
theorem mwR_171 : mwR mr_171 := ⟨mb_5 (List.mem_of_getElem? (i := 162) rfl) rfl, mb_1 (List.mem_of_getElem? (i := 13) rfl) rfl, mb_5 (List.mem_of_getElem? (i := 161) rfl) rfl, fun h => absurd h (by decide)⟩
set_option maxRecDepth 100000 in
theorem mwR_172 : mwR mr_172 := ⟨mb_6 (List.mem_of_getElem? (i := 143) rfl) rfl, mb_1 (List.mem_of_getElem? (i := 13) rfl) rfl, mb_6 (List.mem_of_getElem? (i := 142) rfl) rfl, fun _ => mb_0 (List.mem_of_getElem? (i := 51) rfl) rfl⟩
set_option maxRecDepth 100000 in
theorem mwR_173 : mwR mr_173 := ⟨mb_6 (List.mem_of_getElem? (i := 139) rfl) rfl, mb_1 (List.mem_of_getElem? (i := 13) rfl) rfl, mb_6 (List.mem_of_getElem? (i := 138) rfl) rfl, fun h => absurd h (by decide)⟩
set_option maxRecDepth 100000 in
theorem mwR_174 : mwR mr_174 := ⟨mb_7 (List.mem_of_getElem? (i := 67) rfl) rfl, mb_1 (List.mem_of_getElem? (i := 13) rfl) rfl, mb_7 (List.mem_of_getElem? (i := 66) rfl) rfl, fun h => absurd h (by decide)⟩
set_option maxRecDepth 100000 in
theorem mwR_175 : mwR mr_175 := ⟨mb_7 (List.mem_of_getElem? (i := 64) rfl) rfl, mb_1 (List.mem_of_getElem? (i := 13) rfl) rfl, mb_7 (List.mem_of_getElem? (i := 63) rfl) rfl, fun h => absurd h (by decide)⟩
set_option maxRecDepth 100000 in
theorem mwR_176 : mwR mr_176 := ⟨mb_6 (List.mem_of_getElem? (i := 173) rfl) rfl, mb_1 (List.mem_of_getElem? (i := 13) rfl) rfl, mb_6 (List.mem_of_getElem? (i := 172) rfl) rfl, fun h => absurd h (by decide)⟩
set_option maxRecDepth 100000 in
theorem mwR_177 : mwR mr_177 := ⟨mb_6 (List.mem_of_getElem? (i := 151) rfl) rfl, mb_1 (List.mem_of_getElem? (i := 13) rfl) rfl, mb_6 (List.mem_of_getElem? (i := 150) rfl) rfl, fun _ => mb_0 (List.mem_of_getElem? (i := 52) rfl) rfl⟩
set_option maxRecDepth 100000 in
theorem mwR_178 : mwR mr_178 := ⟨mb_6 (List.mem_of_getElem? (i := 136) rfl) rfl, mb_1 (List.mem_of_getElem? (i := 13) rfl) rfl, mb_6 (List.mem_of_getElem? (i := 134) rfl) rfl, fun _ => mb_6 (List.mem_of_getElem? (i := 135) rfl) rfl⟩
set_option maxRecDepth 100000 in
theorem mwR_179 : mwR mr_179 := ⟨mb_6 (List.mem_of_getElem? (i := 155) rfl) rfl, mb_1 (List.mem_of_getElem? (i := 13) rfl) rfl, mb_6 (List.mem_of_getElem? (i := 154) rfl) rfl, fun _ => mb_0 (List.mem_of_getElem? (i := 53) rfl) rfl⟩
set_option maxRecDepth 100000 in
theorem mwR_180 : mwR mr_180 := ⟨mb_6 (List.mem_of_getElem? (i := 159) rfl) rfl, mb_1 (List.mem_of_getElem? (i := 13) rfl) rfl, mb_6 (List.mem_of_getElem? (i := 158) rfl) rfl, fun _ => mb_0 (List.mem_of_getElem? (i := 54) rfl) rfl⟩
set_option maxRecDepth 100000 in
theorem mwR_181 : mwR mr_181 := ⟨mb_6 (List.mem_of_getElem? (i := 147) rfl) rfl, mb_1 (List.mem_of_getElem? (i := 13) rfl) rfl, mb_6 (List.mem_of_getElem? (i := 145) rfl) rfl, fun _ => mb_6 (List.mem_of_getElem? (i := 146) rfl) rfl⟩
set_option maxRecDepth 100000 in
theorem mwR_182 : mwR mr_182 := ⟨mb_6 (List.mem_of_getElem? (i := 167) rfl) rfl, mb_1 (List.mem_of_getElem? (i := 13) rfl) rfl, mb_6 (List.mem_of_getElem? (i := 166) rfl) rfl, fun _ => mb_0 (List.mem_of_getElem? (i := 55) rfl) rfl⟩
set_option maxRecDepth 100000 in
theorem mwR_183 : mwR mr_183 := ⟨mb_6 (List.mem_of_getElem? (i := 170) rfl) rfl, mb_1 (List.mem_of_getElem? (i := 13) rfl) rfl, mb_6 (List.mem_of_getElem? (i := 169) rfl) rfl, fun h => absurd h (by decide)⟩
set_option maxRecDepth 100000 in
theorem mwR_184 : mwR mr_184 := ⟨mb_6 (List.mem_of_getElem? (i := 180) rfl) rfl, mb_1 (List.mem_of_getElem? (i := 13) rfl) rfl, mb_6 (List.mem_of_getElem? (i := 179) rfl) rfl, fun _ => mb_0 (List.mem_of_getElem? (i := 56) rfl) rfl⟩
set_option maxRecDepth 100000 in
theorem mwR_185 : mwR mr_185 := ⟨mb_6 (List.mem_of_getElem? (i := 188) rfl) rfl, mb_1 (List.mem_of_getElem? (i := 13) rfl) rfl, mb_6 (List.mem_of_getElem? (i := 187) rfl) rfl, fun _ => mb_0 (List.mem_of_getElem? (i := 57) rfl) rfl⟩
set_option maxRecDepth 100000 in
theorem mwR_186 : mwR mr_186 := ⟨mb_6 (List.mem_of_getElem? (i := 163) rfl) rfl, mb_1 (List.mem_of_getElem? (i := 13) rfl) rfl, mb_6 (List.mem_of_getElem? (i := 161) rfl) rfl, fun _ => mb_6 (List.mem_of_getElem? (i := 162) rfl) rfl⟩
set_option maxRecDepth 100000 in
theorem mwR_187 : mwR mr_187 := ⟨mb_6 (List.mem_of_getElem? (i := 184) rfl) rfl, mb_1 (List.mem_of_getElem? (i := 13) rfl) rfl, mb_6 (List.mem_of_getElem? (i := 182) rfl) rfl, fun _ => mb_6 (List.mem_of_getElem? (i := 183) rfl) rfl⟩
set_option maxRecDepth 100000 in
theorem mwR_188 : mwR mr_188 := ⟨mb_6 (List.mem_of_getElem? (i := 192) rfl) rfl, mb_1 (List.mem_of_getElem? (i := 13) rfl) rfl, mb_6 (List.mem_of_getElem? (i := 190) rfl) rfl, fun _ => mb_6 (List.mem_of_getElem? (i := 191) rfl) rfl⟩
set_option maxRecDepth 100000 in
theorem mwR_189 : mwR mr_189 := ⟨mb_6 (List.mem_of_getElem? (i := 204) rfl) rfl, mb_1 (List.mem_of_getElem? (i := 13) rfl) rfl, mb_6 (List.mem_of_getElem? (i := 203) rfl) rfl, fun _ => mb_0 (List.mem_of_getElem? (i := 59) rfl) rfl⟩
set_option maxRecDepth 100000 in
theorem mwR_190 : mwR mr_190 := ⟨mb_6 (List.mem_of_getElem? (i := 212) rfl) rfl, mb_1 (List.mem_of_getElem? (i := 13) rfl) rfl, mb_6 (List.mem_of_getElem? (i := 211) rfl) rfl, fun _ => mb_0 (List.mem_of_getElem? (i := 61) rfl) rfl⟩
set_option maxRecDepth 100000 in
theorem mwR_191 : mwR mr_191 := ⟨mb_6 (List.mem_of_getElem? (i := 216) rfl) rfl, mb_1 (List.mem_of_getElem? (i := 13) rfl) rfl, mb_6 (List.mem_of_getElem? (i := 215) rfl) rfl, fun _ => mb_0 (List.mem_of_getElem? (i := 62) rfl) rfl⟩
set_option maxRecDepth 100000 in
theorem mwR_192 : mwR mr_192 := ⟨mb_6 (List.mem_of_getElem? (i := 220) rfl) rfl, mb_1 (List.mem_of_getElem? (i := 13) rfl) rfl, mb_6 (List.mem_of_getElem? (i := 219) rfl) rfl, fun _ => mb_0 (List.mem_of_getElem? (i := 63) rfl) rfl⟩
set_option maxRecDepth 100000 in
theorem mwR_193 : mwR mr_193 := ⟨mb_6 (List.mem_of_getElem? (i := 208) rfl) rfl, mb_1 (List.mem_of_getElem? (i := 13) rfl) rfl, mb_6 (List.mem_of_getElem? (i := 207) rfl) rfl, fun _ => mb_0 (List.mem_of_getElem? (i := 60) rfl) rfl⟩
set_option maxRecDepth 100000 in
theorem mwR_194 : mwR mr_194 := ⟨mb_6 (List.mem_of_getElem? (i := 228) rfl) rfl, mb_1 (List.mem_of_getElem? (i := 13) rfl) rfl, mb_6 (List.mem_of_getElem? (i := 227) rfl) rfl, fun _ => mb_0 (List.mem_of_getElem? (i := 65) rfl) rfl⟩
set_option maxRecDepth 100000 in
theorem mwR_195 : mwR mr_195 := ⟨mb_6 (List.mem_of_getElem? (i := 232) rfl) rfl, mb_1 (List.mem_of_getElem? (i := 13) rfl) rfl, mb_6 (List.mem_of_getElem? (i := 231) rfl) rfl, fun _ => mb_0 (List.mem_of_getElem? (i := 66) rfl) rfl⟩
set_option maxRecDepth 100000 in
theorem mwR_196 : mwR mr_196 := ⟨mb_6 (List.mem_of_getElem? (i := 224) rfl) rfl, mb_1 (List.mem_of_getElem? (i := 13) rfl) rfl, mb_6 (List.mem_of_getElem? (i := 223) rfl) rfl, fun _ => mb_0 (List.mem_of_getElem? (i := 64) rfl) rfl⟩
set_option maxRecDepth 100000 in
theorem mwR_197 : mwR mr_197 := ⟨mb_6 (List.mem_of_getElem? (i := 200) rfl) rfl, mb_1 (List.mem_of_getElem? (i := 13) rfl) rfl, mb_6 (List.mem_of_getElem? (i := 199) rfl) rfl, fun _ => mb_0 (List.mem_of_getElem? (i := 58) rfl) rfl⟩
set_option maxRecDepth 100000 in
theorem mwR_198 : mwR mr_198 := ⟨mb_6 (List.mem_of_getElem? (i := 196) rfl) rfl, mb_1 (List.mem_of_getElem? (i := 13) rfl) rfl, mb_6 (List.mem_of_getElem? (i := 194) rfl) rfl, fun _ => mb_6 (List.mem_of_getElem? (i := 195) rfl) rfl⟩
set_option maxRecDepth 100000 in
theorem mwR_199 : mwR mr_199 := ⟨mb_6 (List.mem_of_getElem? (i := 236) rfl) rfl, mb_1 (List.mem_of_getElem? (i := 13) rfl) rfl, mb_6 (List.mem_of_getElem? (i := 234) rfl) rfl, fun _ => mb_6 (List.mem_of_getElem? (i := 235) rfl) rfl⟩
set_option maxRecDepth 100000 in
theorem mwR_200 : mwR mr_200 := ⟨mb_7 (List.mem_of_getElem? (i := 9) rfl) rfl, mb_1 (List.mem_of_getElem? (i := 13) rfl) rfl, mb_7 (List.mem_of_getElem? (i := 8) rfl) rfl, fun _ => mb_0 (List.mem_of_getElem? (i := 68) rfl) rfl⟩
set_option maxRecDepth 100000 in
theorem mwR_201 : mwR mr_201 := ⟨mb_7 (List.mem_of_getElem? (i := 4) rfl) rfl, mb_1 (List.mem_of_getElem? (i := 13) rfl) rfl, mb_7 (List.mem_of_getElem? (i := 3) rfl) rfl, fun _ => mb_0 (List.mem_of_getElem? (i := 67) rfl) rfl⟩
set_option maxRecDepth 100000 in
theorem mwR_202 : mwR mr_202 := ⟨mb_7 (List.mem_of_getElem? (i := 13) rfl) rfl, mb_1 (List.mem_of_getElem? (i := 13) rfl) rfl, mb_7 (List.mem_of_getElem? (i := 12) rfl) rfl, fun h => absurd h (by decide)⟩
set_option maxRecDepth 100000 in
theorem mwR_203 : mwR mr_203 := ⟨mb_7 (List.mem_of_getElem? (i := 16) rfl) rfl, mb_1 (List.mem_of_getElem? (i := 13) rfl) rfl, mb_7 (List.mem_of_getElem? (i := 15) rfl) rfl, fun h => absurd h (by decide)⟩
set_option maxRecDepth 100000 in
theorem mwR_204 : mwR mr_204 := ⟨mb_7 (List.mem_of_getElem? (i := 20) rfl) rfl, mb_1 (List.mem_of_getElem? (i := 13) rfl) rfl, mb_7 (List.mem_of_getElem? (i := 19) rfl) rfl, fun h => absurd h (by decide)⟩
set_option maxRecDepth 100000 in
theorem mwR_205 : mwR mr_205 := ⟨mb_7 (List.mem_of_getElem? (i := 24) rfl) rfl, mb_1 (List.mem_of_getElem? (i := 13) rfl) rfl, mb_7 (List.mem_of_getElem? (i := 23) rfl) rfl, fun _ => mb_0 (List.mem_of_getElem? (i := 69) rfl) rfl⟩
set_option maxRecDepth 100000 in
theorem mwR_206 : mwR mr_206 := ⟨mb_7 (List.mem_of_getElem? (i := 0) rfl) rfl, mb_1 (List.mem_of_getElem? (i := 13) rfl) rfl, mb_6 (List.mem_of_getElem? (i := 238) rfl) rfl, fun _ => mb_6 (List.mem_of_getElem? (i := 239) rfl) rfl⟩
set_option maxRecDepth 100000 in
theorem mwR_207 : mwR mr_207 := ⟨mb_7 (List.mem_of_getElem? (i := 28) rfl) rfl, mb_1 (List.mem_of_getElem? (i := 13) rfl) rfl, mb_7 (List.mem_of_getElem? (i := 26) rfl) rfl, fun _ => mb_7 (List.mem_of_getElem? (i := 27) rfl) rfl⟩
set_option maxRecDepth 100000 in
theorem mwR_208 : mwR mr_208 := ⟨mb_7 (List.mem_of_getElem? (i := 32) rfl) rfl, mb_1 (List.mem_of_getElem? (i := 13) rfl) rfl, mb_7 (List.mem_of_getElem? (i := 30) rfl) rfl, fun _ => mb_7 (List.mem_of_getElem? (i := 31) rfl) rfl⟩
set_option maxRecDepth 100000 in
theorem mwR_209 : mwR mr_209 := ⟨mb_7 (List.mem_of_getElem? (i := 37) rfl) rfl, mb_1 (List.mem_of_getElem? (i := 13) rfl) rfl, mb_7 (List.mem_of_getElem? (i := 35) rfl) rfl, fun _ => mb_7 (List.mem_of_getElem? (i := 36) rfl) rfl⟩
set_option maxRecDepth 100000 in
theorem mwR_210 : mwR mr_210 := ⟨mb_7 (List.mem_of_getElem? (i := 76) rfl) rfl, mb_1 (List.mem_of_getElem? (i := 13) rfl) rfl, mb_7 (List.mem_of_getElem? (i := 75) rfl) rfl, fun _ => mb_0 (List.mem_of_getElem? (i := 76) rfl) rfl⟩
set_option maxRecDepth 100000 in
theorem mwR_211 : mwR mr_211 := ⟨mb_7 (List.mem_of_getElem? (i := 72) rfl) rfl, mb_1 (List.mem_of_getElem? (i := 13) rfl) rfl, mb_7 (List.mem_of_getElem? (i := 71) rfl) rfl, fun _ => mb_0 (List.mem_of_getElem? (i := 75) rfl) rfl⟩
set_option maxRecDepth 100000 in
theorem mwR_212 : mwR mr_212 := ⟨mb_7 (List.mem_of_getElem? (i := 53) rfl) rfl, mb_1 (List.mem_of_getElem? (i := 13) rfl) rfl, mb_7 (List.mem_of_getElem? (i := 52) rfl) rfl, fun _ => mb_0 (List.mem_of_getElem? (i := 72) rfl) rfl⟩
set_option maxRecDepth 100000 in
theorem mwR_213 : mwR mr_213 := ⟨mb_7 (List.mem_of_getElem? (i := 61) rfl) rfl, mb_1 (List.mem_of_getElem? (i := 13) rfl) rfl, mb_7 (List.mem_of_getElem? (i := 60) rfl) rfl, fun _ => mb_0 (List.mem_of_getElem? (i := 74) rfl) rfl⟩
set_option maxRecDepth 100000 in
theorem mwR_214 : mwR mr_214 := ⟨mb_7 (List.mem_of_getElem? (i := 57) rfl) rfl, mb_1 (List.mem_of_getElem? (i := 13) rfl) rfl, mb_7 (List.mem_of_getElem? (i := 56) rfl) rfl, fun _ => mb_0 (List.mem_of_getElem? (i := 73) rfl) rfl⟩
set_option maxRecDepth 100000 in
theorem mwR_215 : mwR mr_215 := ⟨mb_7 (List.mem_of_getElem? (i := 49) rfl) rfl, mb_1 (List.mem_of_getElem? (i := 13) rfl) rfl, mb_7 (List.mem_of_getElem? (i := 48) rfl) rfl, fun _ => mb_0 (List.mem_of_getElem? (i := 71) rfl) rfl⟩
set_option maxRecDepth 100000 in
theorem mwR_216 : mwR mr_216 := ⟨mb_7 (List.mem_of_getElem? (i := 45) rfl) rfl, mb_1 (List.mem_of_getElem? (i := 13) rfl) rfl, mb_7 (List.mem_of_getElem? (i := 44) rfl) rfl, fun _ => mb_0 (List.mem_of_getElem? (i := 70) rfl) rfl⟩
set_option maxRecDepth 100000 in
theorem mwR_217 : mwR mr_217 := ⟨mb_7 (List.mem_of_getElem? (i := 104) rfl) rfl, mb_1 (List.mem_of_getElem? (i := 13) rfl) rfl, mb_7 (List.mem_of_getElem? (i := 103) rfl) rfl, fun _ => mb_0 (List.mem_of_getElem? (i := 82) rfl) rfl⟩
set_option maxRecDepth 100000 in
theorem mwR_218 : mwR mr_218 := ⟨mb_7 (List.mem_of_getElem? (i := 108) rfl) rfl, mb_1 (List.mem_of_getElem? (i := 13) rfl) rfl, mb_7 (List.mem_of_getElem? (i := 107) rfl) rfl, fun _ => mb_0 (List.mem_of_getElem? (i := 83) rfl) rfl⟩
set_option maxRecDepth 100000 in
theorem mwR_219 : mwR mr_219 := ⟨mb_7 (List.mem_of_getElem? (i := 100) rfl) rfl, mb_1 (List.mem_of_getElem? (i := 13) rfl) rfl, mb_7 (List.mem_of_getElem? (i := 99) rfl) rfl, fun _ => mb_0 (List.mem_of_getElem? (i := 81) rfl) rfl⟩
set_option maxRecDepth 100000 in
theorem mwR_220 : mwR mr_220 := ⟨mb_7 (List.mem_of_getElem? (i := 96) rfl) rfl, mb_1 (List.mem_of_getElem? (i := 13) rfl) rfl, mb_7 (List.mem_of_getElem? (i := 95) rfl) rfl, fun _ => mb_0 (List.mem_of_getElem? (i := 80) rfl) rfl⟩
set_option maxRecDepth 100000 in
theorem mwR_221 : mwR mr_221 := ⟨mb_7 (List.mem_of_getElem? (i := 116) rfl) rfl, mb_1 (List.mem_of_getElem? (i := 13) rfl) rfl, mb_7 (List.mem_of_getElem? (i := 115) rfl) rfl, fun _ => mb_0 (List.mem_of_getElem? (i := 85) rfl) rfl⟩
set_option maxRecDepth 100000 in
theorem mwR_222 : mwR mr_222 := ⟨mb_7 (List.mem_of_getElem? (i := 92) rfl) rfl, mb_1 (List.mem_of_getElem? (i := 13) rfl) rfl, mb_7 (List.mem_of_getElem? (i := 91) rfl) rfl, fun _ => mb_0 (List.mem_of_getElem? (i := 79) rfl) rfl⟩
set_option maxRecDepth 100000 in
theorem mwR_223 : mwR mr_223 := ⟨mb_7 (List.mem_of_getElem? (i := 112) rfl) rfl, mb_1 (List.mem_of_getElem? (i := 13) rfl) rfl, mb_7 (List.mem_of_getElem? (i := 111) rfl) rfl, fun _ => mb_0 (List.mem_of_getElem? (i := 84) rfl) rfl⟩
set_option maxRecDepth 100000 in
theorem mwR_224 : mwR mr_224 := ⟨mb_7 (List.mem_of_getElem? (i := 120) rfl) rfl, mb_1 (List.mem_of_getElem? (i := 13) rfl) rfl, mb_7 (List.mem_of_getElem? (i := 119) rfl) rfl, fun _ => mb_0 (List.mem_of_getElem? (i := 86) rfl) rfl⟩
set_option maxRecDepth 100000 in
theorem mwR_225 : mwR mr_225 := ⟨mb_7 (List.mem_of_getElem? (i := 124) rfl) rfl, mb_1 (List.mem_of_getElem? (i := 13) rfl) rfl, mb_7 (List.mem_of_getElem? (i := 123) rfl) rfl, fun _ => mb_0 (List.mem_of_getElem? (i := 87) rfl) rfl⟩
set_option maxRecDepth 100000 in
theorem mwR_226 : mwR mr_226 := ⟨mb_7 (List.mem_of_getElem? (i := 129) rfl) rfl, mb_1 (List.mem_of_getElem? (i := 13) rfl) rfl, mb_7 (List.mem_of_getElem? (i := 128) rfl) rfl, fun _ => mb_0 (List.mem_of_getElem? (i := 88) rfl) rfl⟩
set_option maxRecDepth 100000 in
theorem mwR_227 : mwR mr_227 := ⟨mb_7 (List.mem_of_getElem? (i := 88) rfl) rfl, mb_1 (List.mem_of_getElem? (i := 13) rfl) rfl, mb_7 (List.mem_of_getElem? (i := 87) rfl) rfl, fun _ => mb_0 (List.mem_of_getElem? (i := 78) rfl) rfl⟩
set_option maxRecDepth 100000 in
theorem mwR_228 : mwR mr_228 := ⟨mb_7 (List.mem_of_getElem? (i := 80) rfl) rfl, mb_1 (List.mem_of_getElem? (i := 13) rfl) rfl, mb_7 (List.mem_of_getElem? (i := 79) rfl) rfl, fun _ => mb_0 (List.mem_of_getElem? (i := 77) rfl) rfl⟩
set_option maxRecDepth 100000 in
theorem mwR_229 : mwR mr_229 := ⟨mb_7 (List.mem_of_getElem? (i := 41) rfl) rfl, mb_1 (List.mem_of_getElem? (i := 13) rfl) rfl, mb_7 (List.mem_of_getElem? (i := 39) rfl) rfl, fun _ => mb_7 (List.mem_of_getElem? (i := 40) rfl) rfl⟩
set_option maxRecDepth 100000 in
theorem mwR_230 : mwR mr_230 := ⟨mb_7 (List.mem_of_getElem? (i := 84) rfl) rfl, mb_1 (List.mem_of_getElem? (i := 13) rfl) rfl, mb_7 (List.mem_of_getElem? (i := 82) rfl) rfl, fun _ => mb_7 (List.mem_of_getElem? (i := 83) rfl) rfl⟩
set_option maxRecDepth 100000 in
theorem mwR_231 : mwR mr_231 := ⟨mb_7 (List.mem_of_getElem? (i := 133) rfl) rfl, mb_1 (List.mem_of_getElem? (i := 13) rfl) rfl, mb_7 (List.mem_of_getElem? (i := 131) rfl) rfl, fun _ => mb_7 (List.mem_of_getElem? (i := 132) rfl) rfl⟩
set_option maxRecDepth 100000 in
theorem mwR_232 : mwR mr_232 := ⟨mb_7 (List.mem_of_getElem? (i := 137) rfl) rfl, mb_1 (List.mem_of_getElem? (i := 13) rfl) rfl, mb_7 (List.mem_of_getElem? (i := 135) rfl) rfl, fun _ => mb_7 (List.mem_of_getElem? (i := 136) rfl) rfl⟩
set_option maxRecDepth 100000 in
theorem mwR_233 : mwR mr_233 := ⟨mb_7 (List.mem_of_getElem? (i := 141) rfl) rfl, mb_1 (List.mem_of_getElem? (i := 13) rfl) rfl, mb_7 (List.mem_of_getElem? (i := 139) rfl) rfl, fun _ => mb_7 (List.mem_of_getElem? (i := 140) rfl) rfl⟩
set_option maxRecDepth 100000 in
theorem mwR_234 : mwR mr_234 := ⟨mb_7 (List.mem_of_getElem? (i := 149) rfl) rfl, mb_1 (List.mem_of_getElem? (i := 13) rfl) rfl, mb_7 (List.mem_of_getElem? (i := 148) rfl) rfl, fun _ => mb_0 (List.mem_of_getElem? (i := 89) rfl) rfl⟩
set_option maxRecDepth 100000 in
theorem mwR_235 : mwR mr_235 := ⟨mb_7 (List.mem_of_getElem? (i := 153) rfl) rfl, mb_1 (List.mem_of_getElem? (i := 13) rfl) rfl, mb_7 (List.mem_of_getElem? (i := 152) rfl) rfl, fun _ => mb_0 (List.mem_of_getElem? (i := 90) rfl) rfl⟩
set_option maxRecDepth 100000 in
theorem mwR_236 : mwR mr_236 := ⟨mb_7 (List.mem_of_getElem? (i := 145) rfl) rfl, mb_1 (List.mem_of_getElem? (i := 13) rfl) rfl, mb_7 (List.mem_of_getElem? (i := 143) rfl) rfl, fun _ => mb_7 (List.mem_of_getElem? (i := 144) rfl) rfl⟩
set_option maxRecDepth 100000 in
theorem mwR_237 : mwR mr_237 := ⟨mb_7 (List.mem_of_getElem? (i := 157) rfl) rfl, mb_1 (List.mem_of_getElem? (i := 13) rfl) rfl, mb_7 (List.mem_of_getElem? (i := 155) rfl) rfl, fun _ => mb_7 (List.mem_of_getElem? (i := 156) rfl) rfl⟩
set_option maxRecDepth 100000 in
theorem mwR_238 : mwR mr_238 := ⟨mb_7 (List.mem_of_getElem? (i := 170) rfl) rfl, mb_1 (List.mem_of_getElem? (i := 13) rfl) rfl, mb_7 (List.mem_of_getElem? (i := 169) rfl) rfl, fun _ => mb_0 (List.mem_of_getElem? (i := 92) rfl) rfl⟩
set_option maxRecDepth 100000 in
theorem mwR_239 : mwR mr_239 := ⟨mb_7 (List.mem_of_getElem? (i := 174) rfl) rfl, mb_1 (List.mem_of_getElem? (i := 13) rfl) rfl, mb_7 (List.mem_of_getElem? (i := 173) rfl) rfl, fun _ => mb_0 (List.mem_of_getElem? (i := 93) rfl) rfl⟩
set_option maxRecDepth 100000 in
theorem mwR_240 : mwR mr_240 := ⟨mb_7 (List.mem_of_getElem? (i := 178) rfl) rfl, mb_1 (List.mem_of_getElem? (i := 13) rfl) rfl, mb_7 (List.mem_of_getElem? (i := 177) rfl) rfl, fun _ => mb_0 (List.mem_of_getElem? (i := 94) rfl) rfl⟩
set_option maxRecDepth 100000 in
theorem mwR_241 : mwR mr_241 := ⟨mb_7 (List.mem_of_getElem? (i := 166) rfl) rfl, mb_1 (List.mem_of_getElem? (i := 13) rfl) rfl, mb_7 (List.mem_of_getElem? (i := 165) rfl) rfl, fun _ => mb_0 (List.mem_of_getElem? (i := 91) rfl) rfl⟩
set_option maxRecDepth 100000 in
theorem mwR_242 : mwR mr_242 := ⟨mb_7 (List.mem_of_getElem? (i := 161) rfl) rfl, mb_1 (List.mem_of_getElem? (i := 13) rfl) rfl, mb_7 (List.mem_of_getElem? (i := 159) rfl) rfl, fun _ => mb_7 (List.mem_of_getElem? (i := 160) rfl) rfl⟩
set_option maxRecDepth 100000 in
theorem mwR_243 : mwR mr_243 := ⟨mb_7 (List.mem_of_getElem? (i := 182) rfl) rfl, mb_1 (List.mem_of_getElem? (i := 13) rfl) rfl, mb_7 (List.mem_of_getElem? (i := 180) rfl) rfl, fun _ => mb_7 (List.mem_of_getElem? (i := 181) rfl) rfl⟩
set_option maxRecDepth 100000 in
theorem mwR_244 : mwR mr_244 := ⟨mb_7 (List.mem_of_getElem? (i := 186) rfl) rfl, mb_1 (List.mem_of_getElem? (i := 13) rfl) rfl, mb_7 (List.mem_of_getElem? (i := 184) rfl) rfl, fun _ => mb_7 (List.mem_of_getElem? (i := 185) rfl) rfl⟩
set_option maxRecDepth 100000 in
theorem mwR_245 : mwR mr_245 := ⟨mb_7 (List.mem_of_getElem? (i := 190) rfl) rfl, mb_1 (List.mem_of_getElem? (i := 13) rfl) rfl, mb_7 (List.mem_of_getElem? (i := 188) rfl) rfl, fun _ => mb_7 (List.mem_of_getElem? (i := 189) rfl) rfl⟩
set_option maxRecDepth 100000 in
theorem mwR_246 : mwR mr_246 := ⟨mb_7 (List.mem_of_getElem? (i := 194) rfl) rfl, mb_1 (List.mem_of_getElem? (i := 13) rfl) rfl, mb_7 (List.mem_of_getElem? (i := 192) rfl) rfl, fun _ => mb_7 (List.mem_of_getElem? (i := 193) rfl) rfl⟩
set_option maxRecDepth 100000 in
theorem mwR_247 : mwR mr_247 := ⟨mb_7 (List.mem_of_getElem? (i := 202) rfl) rfl, mb_1 (List.mem_of_getElem? (i := 13) rfl) rfl, mb_7 (List.mem_of_getElem? (i := 201) rfl) rfl, fun _ => mb_0 (List.mem_of_getElem? (i := 95) rfl) rfl⟩
set_option maxRecDepth 100000 in
theorem mwR_248 : mwR mr_248 := ⟨mb_7 (List.mem_of_getElem? (i := 198) rfl) rfl, mb_1 (List.mem_of_getElem? (i := 13) rfl) rfl, mb_7 (List.mem_of_getElem? (i := 196) rfl) rfl, fun _ => mb_7 (List.mem_of_getElem? (i := 197) rfl) rfl⟩
set_option maxRecDepth 100000 in
theorem mwR_249 : mwR mr_249 := ⟨mb_7 (List.mem_of_getElem? (i := 206) rfl) rfl, mb_1 (List.mem_of_getElem? (i := 13) rfl) rfl, mb_7 (List.mem_of_getElem? (i := 204) rfl) rfl, fun _ => mb_7 (List.mem_of_getElem? (i := 205) rfl) rfl⟩
set_option maxRecDepth 100000 in
theorem mwR_250 : mwR mr_250 := ⟨mb_7 (List.mem_of_getElem? (i := 210) rfl) rfl, mb_1 (List.mem_of_getElem? (i := 13) rfl) rfl, mb_7 (List.mem_of_getElem? (i := 208) rfl) rfl, fun _ => mb_7 (List.mem_of_getElem? (i := 209) rfl) rfl⟩
set_option maxRecDepth 100000 in
theorem mwR_251 : mwR mr_251 := ⟨mb_7 (List.mem_of_getElem? (i := 214) rfl) rfl, mb_1 (List.mem_of_getElem? (i := 13) rfl) rfl, mb_7 (List.mem_of_getElem? (i := 212) rfl) rfl, fun _ => mb_7 (List.mem_of_getElem? (i := 213) rfl) rfl⟩
set_option maxRecDepth 100000 in
theorem mwR_252 : mwR mr_252 := ⟨mb_7 (List.mem_of_getElem? (i := 218) rfl) rfl, mb_1 (List.mem_of_getElem? (i := 13) rfl) rfl, mb_7 (List.mem_of_getElem? (i := 216) rfl) rfl, fun _ => mb_7 (List.mem_of_getElem? (i := 217) rfl) rfl⟩
set_option maxRecDepth 100000 in
theorem mwR_253 : mwR mr_253 := ⟨mb_7 (List.mem_of_getElem? (i := 227) rfl) rfl, mb_1 (List.mem_of_getElem? (i := 13) rfl) rfl, mb_7 (List.mem_of_getElem? (i := 226) rfl) rfl, fun _ => mb_0 (List.mem_of_getElem? (i := 96) rfl) rfl⟩
set_option maxRecDepth 100000 in
theorem mwR_254 : mwR mr_254 := ⟨mb_7 (List.mem_of_getElem? (i := 223) rfl) rfl, mb_1 (List.mem_of_getElem? (i := 13) rfl) rfl, mb_7 (List.mem_of_getElem? (i := 221) rfl) rfl, fun _ => mb_7 (List.mem_of_getElem? (i := 222) rfl) rfl⟩
set_option maxRecDepth 100000 in
theorem mwR_255 : mwR mr_255 := ⟨mb_8 (List.mem_of_getElem? (i := 0) rfl) rfl, mb_1 (List.mem_of_getElem? (i := 13) rfl) rfl, mb_7 (List.mem_of_getElem? (i := 239) rfl) rfl, fun _ => mb_0 (List.mem_of_getElem? (i := 98) rfl) rfl⟩
set_option maxRecDepth 100000 in
theorem mwR_256 : mwR mr_256 := ⟨mb_7 (List.mem_of_getElem? (i := 236) rfl) rfl, mb_1 (List.mem_of_getElem? (i := 13) rfl) rfl, mb_7 (List.mem_of_getElem? (i := 235) rfl) rfl, fun _ => mb_0 (List.mem_of_getElem? (i := 97) rfl) rfl⟩
set_option maxRecDepth 100000 in
theorem mwR_257 : mwR mr_257 := ⟨mb_8 (List.mem_of_getElem? (i := 4) rfl) rfl, mb_1 (List.mem_of_getElem? (i := 13) rfl) rfl, mb_8 (List.mem_of_getElem? (i := 3) rfl) rfl, fun _ => mb_0 (List.mem_of_getElem? (i := 99) rfl) rfl⟩
set_option maxRecDepth 100000 in
theorem mwR_258 : mwR mr_258 := ⟨mb_8 (List.mem_of_getElem? (i := 8) rfl) rfl, mb_1 (List.mem_of_getElem? (i := 13) rfl) rfl, mb_8 (List.mem_of_getElem? (i := 7) rfl) rfl, fun _ => mb_0 (List.mem_of_getElem? (i := 100) rfl) rfl⟩
set_option maxRecDepth 100000 in
theorem mwR_259 : mwR mr_259 := ⟨mb_7 (List.mem_of_getElem? (i := 232) rfl) rfl, mb_1 (List.mem_of_getElem? (i := 13) rfl) rfl, mb_7 (List.mem_of_getElem? (i := 230) rfl) rfl, fun _ => mb_7 (List.mem_of_getElem? (i := 231) rfl) rfl⟩
set_option maxRecDepth 100000 in
theorem mwR_260 : mwR mr_260 := ⟨mb_8 (List.mem_of_getElem? (i := 12) rfl) rfl, mb_1 (List.mem_of_getElem? (i := 13) rfl) rfl, mb_8 (List.mem_of_getElem? (i := 10) rfl) rfl, fun _ => mb_8 (List.mem_of_getElem? (i := 11) rfl) rfl⟩
set_option maxRecDepth 100000 in
theorem mwR_261 : mwR mr_261 := ⟨mb_3 (List.mem_of_getElem? (i := 112) rfl) rfl, mb_1 (List.mem_of_getElem? (i := 14) rfl) rfl, mb_3 (List.mem_of_getElem? (i := 111) rfl) rfl, fun h => absurd h (by decide)⟩
theorem mwS_0 : mwS mr_0 := ⟨rfl, by decide +kernel, by decide +kernel, by decide +kernel, by decide +kernel, fun _ => ⟨rfl, rfl⟩, Or.inr (by decide), by decide, by decide, by decide⟩
theorem mwS_1 : mwS mr_1 := ⟨rfl, by decide +kernel, by decide +kernel, by decide +kernel, by decide +kernel, fun h => absurd h (by decide), Or.inr (by decide), by decide, by decide, by decide⟩
theorem mwS_2 : mwS mr_2 := ⟨rfl, by decide +kernel, by decide +kernel, by decide +kernel, by decide +kernel, fun h => absurd h (by decide), Or.inr (by decide), by decide, by decide, by decide⟩
theorem mwS_3 : mwS mr_3 := ⟨rfl, by decide +kernel, by decide +kernel, by decide +kernel, by decide +kernel, fun h => absurd h (by decide), Or.inr (by decide), by decide, by decide, by decide⟩
theorem mwS_4 : mwS mr_4 := ⟨rfl, by decide +kernel, by decide +kernel, by decide +kernel, by decide +kernel, fun h => absurd h (by decide), Or.inr (by decide), by decide, by decide, by decide⟩
theorem mwS_5 : mwS mr_5 := ⟨rfl, by decide +kernel, by decide +kernel, by decide +kernel, by decide +kernel, fun h => absurd h (by decide), Or.inr (by decide), by decide, by decide, by decide⟩
theorem mwS_6 : mwS mr_6 := ⟨rfl, by decide +kernel, by decide +kernel, by decide +kernel, by decide +kernel, fun h => absurd h (by decide), Or.inr (by decide), by decide, by decide, by decide⟩
theorem mwS_7 : mwS mr_7 := ⟨rfl, by decide +kernel, by decide +kernel, by decide +kernel, by decide +kernel, fun h => absurd h (by decide), Or.inr (by decide), by decide, by decide, by decide⟩
theorem mwS_8 : mwS mr_8 := ⟨rfl, by decide +kernel, by decide +kernel, by decide +kernel, by decide +kernel, fun h => absurd h (by decide), Or.inl rfl, by decide, by decide, by decide⟩
theorem mwS_9 : mwS mr_9 := ⟨rfl, by decide +kernel, by decide +kernel, by decide +kernel, by decide +kernel, fun h => absurd h (by decide), Or.inl rfl, by decide, by decide, by decide⟩
theorem mwS_10 : mwS mr_10 := ⟨rfl, by decide +kernel, by decide +kernel, by decide +kernel, by decide +kernel, fun h => absurd h (by decide), Or.inl rfl, by decide, by decide, by decide⟩
theorem mwS_11 : mwS mr_11 := ⟨rfl, by decide +kernel, by decide +kernel, by decide +kernel, by decide +kernel, fun h => absurd h (by decide), Or.inl rfl, by decide, by decide, by decide⟩
theorem mwS_12 : mwS mr_12 := ⟨rfl, by decide +kernel, by decide +kernel, by decide +kernel, by decide +kernel, fun h => absurd h (by decide), Or.inl rfl, by decide, by decide, by decide⟩
theorem mwS_13 : mwS mr_13 := ⟨rfl, by decide +kernel, by decide +kernel, by decide +kernel, by decide +kernel, fun h => absurd h (by decide), Or.inl rfl, by decide, by decide, by decide⟩
theorem mwS_14 : mwS mr_14 := ⟨rfl, by decide +kernel, by decide +kernel, by decide +kernel, by decide +kernel, fun h => absurd h (by decide), Or.inl rfl, by decide, by decide, by decide⟩
theorem mwS_15 : mwS mr_15 := ⟨rfl, by decide +kernel, by decide +kernel, by decide +kernel, by decide +kernel, fun h => absurd h (by decide), Or.inl rfl, by decide, by decide, by decide⟩
theorem mwS_16 : mwS mr_16 := ⟨rfl, by decide +kernel, by decide +kernel, by decide +kernel, by decide +kernel, fun h => absurd h (by decide), Or.inl rfl, by decide, by decide, by decide⟩
theorem mwS_17 : mwS mr_17 := ⟨rfl, by decide +kernel, by decide +kernel, by decide +kernel, by decide +kernel, fun _ => ⟨rfl, rfl⟩, Or.inr (by decide), by decide, by decide, by decide⟩
theorem mwS_18 : mwS mr_18 := ⟨rfl, by decide +kernel, by decide +kernel, by decide +kernel, by decide +kernel, fun h => absurd h (by decide), Or.inr (by decide), by decide, by decide, by decide⟩
theorem mwS_19 : mwS mr_19 := ⟨rfl, by decide +kernel, by decide +kernel, by decide +kernel, by decide +kernel, fun h => absurd h (by decide), Or.inr (by decide), by decide, by decide, by decide⟩
theorem mwS_20 : mwS mr_20 := ⟨rfl, by decide +kernel, by decide +kernel, by decide +kernel, by decide +kernel, fun h => absurd h (by decide), Or.inr (by decide), by decide, by decide, by decide⟩
theorem mwS_21 : mwS mr_21 := ⟨rfl, by decide +kernel, by decide +kernel, by decide +kernel, by decide +kernel, fun h => absurd h (by decide), Or.inr (by decide), by decide, by decide, by decide⟩
theorem mwS_22 : mwS mr_22 := ⟨rfl, by decide +kernel, by decide +kernel, by decide +kernel, by decide +kernel, fun _ => ⟨rfl, rfl⟩, Or.inr (by decide), by decide, by decide, by decide⟩
theorem mwS_23 : mwS mr_23 := ⟨rfl, by decide +kernel, by decide +kernel, by decide +kernel, by decide +kernel, fun h => absurd h (by decide), Or.inr (by decide), by decide, by decide, by decide⟩
theorem mwS_24 : mwS mr_24 := ⟨rfl, by decide +kernel, by decide +kernel, by decide +kernel, by decide +kernel, fun h => absurd h (by decide), Or.inr (by decide), by decide, by decide, by decide⟩
theorem mwS_25 : mwS mr_25 := ⟨rfl, by decide +kernel, by decide +kernel, by decide +kernel, by decide +kernel, fun h => absurd h (by decide), Or.inr (by decide), by decide, by decide, by decide⟩
theorem mwS_26 : mwS mr_26 := ⟨rfl, by decide +kernel, by decide +kernel, by decide +kernel, by decide +kernel, fun h => absurd h (by decide), Or.inr (by decide), by decide, by decide, by decide⟩
theorem mwS_27 : mwS mr_27 := ⟨rfl, by decide +kernel, by decide +kernel, by decide +kernel, by decide +kernel, fun h => absurd h (by decide), Or.inr (by decide), by decide, by decide, by decide⟩
theorem mwS_28 : mwS mr_28 := ⟨rfl, by decide +kernel, by decide +kernel, by decide +kernel, by decide +kernel, fun h => absurd h (by decide), Or.inr (by decide), by decide, by decide, by decide⟩
theorem mwS_29 : mwS mr_29 := ⟨rfl, by decide +kernel, by decide +kernel, by decide +kernel, by decide +kernel, fun h => absurd h (by decide), Or.inr (by decide), by decide, by decide, by decide⟩
theorem mwS_30 : mwS mr_30 := ⟨rfl, by decide +kernel, by decide +kernel, by decide +kernel, by decide +kernel, fun h => absurd h (by decide), Or.inr (by decide), by decide, by decide, by decide⟩
theorem mwS_31 : mwS mr_31 := ⟨rfl, by decide +kernel, by decide +kernel, by decide +kernel, by decide +kernel, fun h => absurd h (by decide), Or.inr (by decide), by decide, by decide, by decide⟩
theorem mwS_32 : mwS mr_32 := ⟨rfl, by decide +kernel, by decide +kernel, by decide +kernel, by decide +kernel, fun h => absurd h (by decide), Or.inr (by decide), by decide, by decide, by decide⟩
theorem mwS_33 : mwS mr_33 := ⟨rfl, by decide +kernel, by decide +kernel, by decide +kernel, by decide +kernel, fun _ => ⟨rfl, rfl⟩, Or.inr (by decide), by decide, by decide, by decide⟩
theorem mwS_34 : mwS mr_34 := ⟨rfl, by decide +kernel, by decide +kernel, by decide +kernel, by decide +kernel, fun h => absurd h (by decide), Or.inr (by decide), by decide, by decide, by decide⟩
theorem mwS_35 : mwS mr_35 := ⟨rfl, by decide +kernel, by decide +kernel, by decide +kernel, by decide +kernel, fun h => absurd h (by decide), Or.inl rfl, by decide, by decide, by decide⟩
theorem mwS_36 : mwS mr_36 := ⟨rfl, by decide +kernel, by decide +kernel, by decide +kernel, by decide +kernel, fun h => absurd h (by decide), Or.inr (by decide), by decide, by decide, by decide⟩
theorem mwS_37 : mwS mr_37 := ⟨rfl, by decide +kernel, by decide +kernel, by decide +kernel, by decide +kernel, fun h => absurd h (by decide), Or.inr (by decide), by decide, by decide, by decide⟩
theorem mwS_38 : mwS mr_38 := ⟨rfl, by decide +kernel, by decide +kernel, by decide +kernel, by decide +kernel, fun h => absurd h (by decide), Or.inr (by decide), by decide, by decide, by decide⟩
theorem mwS_39 : mwS mr_39 := ⟨rfl, by decide +kernel, by decide +kernel, by decide +kernel, by decide +kernel, fun h => absurd h (by decide), Or.inr (by decide), by decide, by decide, by decide⟩
theorem mwS_40 : mwS mr_40 := ⟨rfl, by decide +kernel, by decide +kernel, by decide +kernel, by decide +kernel, fun h => absurd h (by decide), Or.inr (by decide), by decide, by decide, by decide⟩
theorem mwS_41 : mwS mr_41 := ⟨rfl, by decide +kernel, by decide +kernel, by decide +kernel, by decide +kernel, fun h => absurd h (by decide), Or.inr (by decide), by decide, by decide, by decide⟩
theorem mwS_42 : mwS mr_42 := ⟨rfl, by decide +kernel, by decide +kernel, by decide +kernel, by decide +kernel, fun h => absurd h (by decide), Or.inr (by decide), by decide, by decide, by decide⟩
theorem mwS_43 : mwS mr_43 := ⟨rfl, by decide +kernel, by decide +kernel, by decide +kernel, by decide +kernel, fun h => absurd h (by decide), Or.inr (by decide), by decide, by decide, by decide⟩
theorem mwS_44 : mwS mr_44 := ⟨rfl, by decide +kernel, by decide +kernel, by decide +kernel, by decide +kernel, fun h => absurd h (by decide), Or.inr (by decide), by decide, by decide, by decide⟩
theorem mwS_45 : mwS mr_45 := ⟨rfl, by decide +kernel, by decide +kernel, by decide +kernel, by decide +kernel, fun h => absurd h (by decide), Or.inr (by decide), by decide, by decide, by decide⟩
theorem mwS_46 : mwS mr_46 := ⟨rfl, by decide +kernel, by decide +kernel, by decide +kernel, by decide +kernel, fun h => absurd h (by decide), Or.inr (by decide), by decide, by decide, by decide⟩
theorem mwS_47 : mwS mr_47 := ⟨rfl, by decide +kernel, by decide +kernel, by decide +kernel, by decide +kernel, fun h => absurd h (by decide), Or.inr (by decide), by decide, by decide, by decide⟩
theorem mwS_48 : mwS mr_48 := ⟨rfl, by decide +kernel, by decide +kernel, by decide +kernel, by decide +kernel, fun h => absurd h (by decide), Or.inr (by decide), by decide, by decide, by decide⟩
theorem mwS_49 : mwS mr_49 := ⟨rfl, by decide +kernel, by decide +kernel, by decide +kernel, by decide +kernel, fun h => absurd h (by decide), Or.inr (by decide), by decide, by decide, by decide⟩
theorem mwS_50 : mwS mr_50 := ⟨rfl, by decide +kernel, by decide +kernel, by decide +kernel, by decide +kernel, fun h => absurd h (by decide), Or.inr (by decide), by decide, by decide, by decide⟩
theorem mwS_51 : mwS mr_51 := ⟨rfl, by decide +kernel, by decide +kernel, by decide +kernel, by decide +kernel, fun h => absurd h (by decide), Or.inr (by decide), by decide, by decide, by decide⟩
theorem mwS_52 : mwS mr_52 := ⟨rfl, by decide +kernel, by decide +kernel, by decide +kernel, by decide +kernel, fun h => absurd h (by decide), Or.inr (by decide), by decide, by decide, by decide⟩
theorem mwS_53 : mwS mr_53 := ⟨rfl, by decide +kernel, by decide +kernel, by decide +kernel, by decide +kernel, fun h => absurd h (by decide), Or.inr (by decide), by decide, by decide, by decide⟩
theorem mwS_54 : mwS mr_54 := ⟨rfl, by decide +kernel, by decide +kernel, by decide +kernel, by decide +kernel, fun h => absurd h (by decide), Or.inr (by decide), by decide, by decide, by decide⟩
theorem mwS_55 : mwS mr_55 := ⟨rfl, by decide +kernel, by decide +kernel, by decide +kernel, by decide +kernel, fun h => absurd h (by decide), Or.inr (by decide), by decide, by decide, by decide⟩
theorem mwS_56 : mwS mr_56 := ⟨rfl, by decide +kernel, by decide +kernel, by decide +kernel, by decide +kernel, fun h => absurd h (by decide), Or.inr (by decide), by decide, by decide, by decide⟩
theorem mwS_57 : mwS mr_57 := ⟨rfl, by decide +kernel, by decide +kernel, by decide +kernel, by decide +kernel, fun h => absurd h (by decide), Or.inr (by decide), by decide, by decide, by decide⟩
theorem mwS_58 : mwS mr_58 := ⟨rfl, by decide +kernel, by decide +kernel, by decide +kernel, by decide +kernel, fun _ => ⟨rfl, rfl⟩, Or.inr (by decide), by decide, by decide, by decide⟩
theorem mwS_59 : mwS mr_59 := ⟨rfl, by decide +kernel, by decide +kernel, by decide +kernel, by decide +kernel, fun h => absurd h (by decide), Or.inr (by decide), by decide, by decide, by decide⟩
theorem mwS_60 : mwS mr_60 := ⟨rfl, by decide +kernel, by decide +kernel, by decide +kernel, by decide +kernel, fun h => absurd h (by decide), Or.inr (by decide), by decide, by decide, by decide⟩
theorem mwS_61 : mwS mr_61 := ⟨rfl, by decide +kernel, by decide +kernel, by decide +kernel, by decide +kernel, fun h => absurd h (by decide), Or.inr (by decide), by decide, by decide, by decide⟩
theorem mwS_62 : mwS mr_62 := ⟨rfl, by decide +kernel, by decide +kernel, by decide +kernel, by decide +kernel, fun _ => ⟨rfl, rfl⟩, Or.inr (by decide), by decide, by decide, by decide⟩
theorem mwS_63 : mwS mr_63 := ⟨rfl, by decide +kernel, by decide +kernel, by decide +kernel, by decide +kernel, fun h => absurd h (by decide), Or.inl rfl, by decide, by decide, by decide⟩
theorem mwS_64 : mwS mr_64 := ⟨rfl, by decide +kernel, by decide +kernel, by decide +kernel, by decide +kernel, fun h => absurd h (by decide), Or.inr (by decide), by decide, by decide, by decide⟩
theorem mwS_65 : mwS mr_65 := ⟨rfl, by decide +kernel, by decide +kernel, by decide +kernel, by decide +kernel, fun h => absurd h (by decide), Or.inl rfl, by decide, by decide, by decide⟩
theorem mwS_66 : mwS mr_66 := ⟨rfl, by decide +kernel, by decide +kernel, by decide +kernel, by decide +kernel, fun h => absurd h (by decide), Or.inr (by decide), by decide, by decide, by decide⟩
theorem mwS_67 : mwS mr_67 := ⟨rfl, by decide +kernel, by decide +kernel, by decide +kernel, by decide +kernel, fun h => absurd h (by decide), Or.inr (by decide), by decide, by decide, by decide⟩
theorem mwS_68 : mwS mr_68 := ⟨rfl, by decide +kernel, by decide +kernel, by decide +kernel, by decide +kernel, fun h => absurd h (by decide), Or.inr (by decide), by decide, by decide, by decide⟩
theorem mwS_69 : mwS mr_69 := ⟨rfl, by decide +kernel, by decide +kernel, by decide +kernel, by decide +kernel, fun h => absurd h (by decide), Or.inr (by decide), by decide, by decide, by decide⟩
theorem mwS_70 : mwS mr_70 := ⟨rfl, by decide +kernel, by decide +kernel, by decide +kernel, by decide +kernel, fun _ => ⟨rfl, rfl⟩, Or.inr (by decide), by decide, by decide, by decide⟩
theorem mwS_71 : mwS mr_71 := ⟨rfl, by decide +kernel, by decide +kernel, by decide +kernel, by decide +kernel, fun h => absurd h (by decide), Or.inr (by decide), by decide, by decide, by decide⟩
theorem mwS_72 : mwS mr_72 := ⟨rfl, by decide +kernel, by decide +kernel, by decide +kernel, by decide +kernel, fun h => absurd h (by decide), Or.inr (by decide), by decide, by decide, by decide⟩
theorem mwS_73 : mwS mr_73 := ⟨rfl, by decide +kernel, by decide +kernel, by decide +kernel, by decide +kernel, fun h => absurd h (by decide), Or.inr (by decide), by decide, by decide, by decide⟩
theorem mwS_74 : mwS mr_74 := ⟨rfl, by decide +kernel, by decide +kernel, by decide +kernel, by decide +kernel, fun h => absurd h (by decide), Or.inr (by decide), by decide, by decide, by decide⟩
theorem mwS_75 : mwS mr_75 := ⟨rfl, by decide +kernel, by decide +kernel, by decide +kernel, by decide +kernel, fun h => absurd h (by decide), Or.inr (by decide), by decide, by decide, by decide⟩
theorem mwS_76 : mwS mr_76 := ⟨rfl, by decide +kernel, by decide +kernel, by decide +kernel, by decide +kernel, fun h => absurd h (by decide), Or.inr (by decide), by decide, by decide, by decide⟩
theorem mwS_77 : mwS mr_77 := ⟨rfl, by decide +kernel, by decide +kernel, by decide +kernel, by decide +kernel, fun h => absurd h (by decide), Or.inl rfl, by decide, by decide, by decide⟩
theorem mwS_78 : mwS mr_78 := ⟨rfl, by decide +kernel, by decide +kernel, by decide +kernel, by decide +kernel, fun h => absurd h (by decide), Or.inr (by decide), by decide, by decide, by decide⟩
theorem mwS_79 : mwS mr_79 := ⟨rfl, by decide +kernel, by decide +kernel, by decide +kernel, by decide +kernel, fun h => absurd h (by decide), Or.inr (by decide), by decide, by decide, by decide⟩
theorem mwS_80 : mwS mr_80 := ⟨rfl, by decide +kernel, by decide +kernel, by decide +kernel, by decide +kernel, fun _ => ⟨rfl, rfl⟩, Or.inr (by decide), by decide, by decide, by decide⟩
theorem mwS_81 : mwS mr_81 := ⟨rfl, by decide +kernel, by decide +kernel, by decide +kernel, by decide +kernel, fun h => absurd h (by decide), Or.inr (by decide), by decide, by decide, by decide⟩
theorem mwS_82 : mwS mr_82 := ⟨rfl, by decide +kernel, by decide +kernel, by decide +kernel, by decide +kernel, fun h => absurd h (by decide), Or.inr (by decide), by decide, by decide, by decide⟩
theorem mwS_83 : mwS mr_83 := ⟨rfl, by decide +kernel, by decide +kernel, by decide +kernel, by decide +kernel, fun h => absurd h (by decide), Or.inr (by decide), by decide, by decide, by decide⟩
theorem mwS_84 : mwS mr_84 := ⟨rfl, by decide +kernel, by decide +kernel, by decide +kernel, by decide +kernel, fun h => absurd h (by decide), Or.inr (by decide), by decide, by decide, by decide⟩
theorem mwS_85 : mwS mr_85 := ⟨rfl, by decide +kernel, by decide +kernel, by decide +kernel, by decide +kernel, fun h => absurd h (by decide), Or.inr (by decide), by decide, by decide, by decide⟩
theorem mwS_86 : mwS mr_86 := ⟨rfl, by decide +kernel, by decide +kernel, by decide +kernel, by decide +kernel, fun h => absurd h (by decide), Or.inr (by decide), by decide, by decide, by decide⟩
theorem mwS_87 : mwS mr_87 := ⟨rfl, by decide +kernel, by decide +kernel, by decide +kernel, by decide +kernel, fun h => absurd h (by decide), Or.inr (by decide), by decide, by decide, by decide⟩
theorem mwS_88 : mwS mr_88 := ⟨rfl, by decide +kernel, by decide +kernel, by decide +kernel, by decide +kernel, fun h => absurd h (by decide), Or.inr (by decide), by decide, by decide, by decide⟩
theorem mwS_89 : mwS mr_89 := ⟨rfl, by decide +kernel, by decide +kernel, by decide +kernel, by decide +kernel, fun h => absurd h (by decide), Or.inr (by decide), by decide, by decide, by decide⟩
theorem mwS_90 : mwS mr_90 := ⟨rfl, by decide +kernel, by decide +kernel, by decide +kernel, by decide +kernel, fun _ => ⟨rfl, rfl⟩, Or.inr (by decide), by decide, by decide, by decide⟩
theorem mwS_91 : mwS mr_91 := ⟨rfl, by decide +kernel, by decide +kernel, by decide +kernel, by decide +kernel, fun h => absurd h (by decide), Or.inr (by decide), by decide, by decide, by decide⟩
theorem mwS_92 : mwS mr_92 := ⟨rfl, by decide +kernel, by decide +kernel, by decide +kernel, by decide +kernel, fun h => absurd h (by decide), Or.inr (by decide), by decide, by decide, by decide⟩
theorem mwS_93 : mwS mr_93 := ⟨rfl, by decide +kernel, by decide +kernel, by decide +kernel, by decide +kernel, fun h => absurd h (by decide), Or.inr (by decide), by decide, by decide, by decide⟩
theorem mwS_94 : mwS mr_94 := ⟨rfl, by decide +kernel, by decide +kernel, by decide +kernel, by decide +kernel, fun h => absurd h (by decide), Or.inr (by decide), by decide, by decide, by decide⟩
theorem mwS_95 : mwS mr_95 := ⟨rfl, by decide +kernel, by decide +kernel, by decide +kernel, by decide +kernel, fun h => absurd h (by decide), Or.inr (by decide), by decide, by decide, by decide⟩
theorem mwS_96 : mwS mr_96 := ⟨rfl, by decide +kernel, by decide +kernel, by decide +kernel, by decide +kernel, fun h => absurd h (by decide), Or.inr (by decide), by decide, by decide, by decide⟩
theorem mwS_97 : mwS mr_97 := ⟨rfl, by decide +kernel, by decide +kernel, by decide +kernel, by decide +kernel, fun h => absurd h (by decide), Or.inr (by decide), by decide, by decide, by decide⟩
theorem mwS_98 : mwS mr_98 := ⟨rfl, by decide +kernel, by decide +kernel, by decide +kernel, by decide +kernel, fun h => absurd h (by decide), Or.inr (by decide), by decide, by decide, by decide⟩
theorem mwS_99 : mwS mr_99 := ⟨rfl, by decide +kernel, by decide +kernel, by decide +kernel, by decide +kernel, fun h => absurd h (by decide), Or.inr (by decide), by decide, by decide, by decide⟩
theorem mwS_100 : mwS mr_100 := ⟨rfl, by decide +kernel, by decide +kernel, by decide +kernel, by decide +kernel, fun _ => ⟨rfl, rfl⟩, Or.inr (by decide), by decide, by decide, by decide⟩
theorem mwS_101 : mwS mr_101 := ⟨rfl, by decide +kernel, by decide +kernel, by decide +kernel, by decide +kernel, fun h => absurd h (by decide), Or.inr (by decide), by decide, by decide, by decide⟩
theorem mwS_102 : mwS mr_102 := ⟨rfl, by decide +kernel, by decide +kernel, by decide +kernel, by decide +kernel, fun h => absurd h (by decide), Or.inr (by decide), by decide, by decide, by decide⟩
theorem mwS_103 : mwS mr_103 := ⟨rfl, by decide +kernel, by decide +kernel, by decide +kernel, by decide +kernel, fun h => absurd h (by decide), Or.inr (by decide), by decide, by decide, by decide⟩
theorem mwS_104 : mwS mr_104 := ⟨rfl, by decide +kernel, by decide +kernel, by decide +kernel, by decide +kernel, fun h => absurd h (by decide), Or.inr (by decide), by decide, by decide, by decide⟩
theorem mwS_105 : mwS mr_105 := ⟨rfl, by decide +kernel, by decide +kernel, by decide +kernel, by decide +kernel, fun h => absurd h (by decide), Or.inr (by decide), by decide, by decide, by decide⟩
theorem mwS_106 : mwS mr_106 := ⟨rfl, by decide +kernel, by decide +kernel, by decide +kernel, by decide +kernel, fun h => absurd h (by decide), Or.inr (by decide), by decide, by decide, by decide⟩
theorem mwS_107 : mwS mr_107 := ⟨rfl, by decide +kernel, by decide +kernel, by decide +kernel, by decide +kernel, fun _ => ⟨rfl, rfl⟩, Or.inr (by decide), by decide, by decide, by decide⟩
theorem mwS_108 : mwS mr_108 := ⟨rfl, by decide +kernel, by decide +kernel, by decide +kernel, by decide +kernel, fun h => absurd h (by decide), Or.inr (by decide), by decide, by decide, by decide⟩
theorem mwS_109 : mwS mr_109 := ⟨rfl, by decide +kernel, by decide +kernel, by decide +kernel, by decide +kernel, fun h => absurd h (by decide), Or.inr (by decide), by decide, by decide, by decide⟩
theorem mwS_110 : mwS mr_110 := ⟨rfl, by decide +kernel, by decide +kernel, by decide +kernel, by decide +kernel, fun h => absurd h (by decide), Or.inr (by decide), by decide, by decide, by decide⟩
theorem mwS_111 : mwS mr_111 := ⟨rfl, by decide +kernel, by decide +kernel, by decide +kernel, by decide +kernel, fun h => absurd h (by decide), Or.inr (by decide), by decide, by decide, by decide⟩
theorem mwS_112 : mwS mr_112 := ⟨rfl, by decide +kernel, by decide +kernel, by decide +kernel, by decide +kernel, fun h => absurd h (by decide), Or.inr (by decide), by decide, by decide, by decide⟩
theorem mwS_113 : mwS mr_113 := ⟨rfl, by decide +kernel, by decide +kernel, by decide +kernel, by decide +kernel, fun h => absurd h (by decide), Or.inr (by decide), by decide, by decide, by decide⟩
theorem mwS_114 : mwS mr_114 := ⟨rfl, by decide +kernel, by decide +kernel, by decide +kernel, by decide +kernel, fun h => absurd h (by decide), Or.inr (by decide), by decide, by decide, by decide⟩
theorem mwS_115 : mwS mr_115 := ⟨rfl, by decide +kernel, by decide +kernel, by decide +kernel, by decide +kernel, fun h => absurd h (by decide), Or.inr (by decide), by decide, by decide, by decide⟩
theorem mwS_116 : mwS mr_116 := ⟨rfl, by decide +kernel, by decide +kernel, by decide +kernel, by decide +kernel, fun h => absurd h (by decide), Or.inr (by decide), by decide, by decide, by decide⟩
theorem mwS_117 : mwS mr_117 := ⟨rfl, by decide +kernel, by decide +kernel, by decide +kernel, by decide +kernel, fun h => absurd h (by decide), Or.inr (by decide), by decide, by decide, by decide⟩
theorem mwS_118 : mwS mr_118 := ⟨rfl, by decide +kernel, by decide +kernel, by decide +kernel, by decide +kernel, fun h => absurd h (by decide), Or.inr (by decide), by decide, by decide, by decide⟩
theorem mwS_119 : mwS mr_119 := ⟨rfl, by decide +kernel, by decide +kernel, by decide +kernel, by decide +kernel, fun h => absurd h (by decide), Or.inr (by decide), by decide, by decide, by decide⟩
theorem mwS_120 : mwS mr_120 := ⟨rfl, by decide +kernel, by decide +kernel, by decide +kernel, by decide +kernel, fun h => absurd h (by decide), Or.inr (by decide), by decide, by decide, by decide⟩
theorem mwS_121 : mwS mr_121 := ⟨rfl, by decide +kernel, by decide +kernel, by decide +kernel, by decide +kernel, fun h => absurd h (by decide), Or.inr (by decide), by decide, by decide, by decide⟩
theorem mwS_122 : mwS mr_122 := ⟨rfl, by decide +kernel, by decide +kernel, by decide +kernel, by decide +kernel, fun h => absurd h (by decide), Or.inr (by decide), by decide, by decide, by decide⟩
theorem mwS_123 : mwS mr_123 := ⟨rfl, by decide +kernel, by decide +kernel, by decide +kernel, by decide +kernel, fun h => absurd h (by decide), Or.inr (by decide), by decide, by decide, by decide⟩
theorem mwS_124 : mwS mr_124 := ⟨rfl, by decide +kernel, by decide +kernel, by decide +kernel, by decide +kernel, fun h => absurd h (by decide), Or.inr (by decide), by decide, by decide, by decide⟩
theorem mwS_125 : mwS mr_125 := ⟨rfl, by decide +kernel, by decide +kernel, by decide +kernel, by decide +kernel, fun h => absurd h (by decide), Or.inr (by decide), by decide, by decide, by decide⟩
theorem mwS_126 : mwS mr_126 := ⟨rfl, by decide +kernel, by decide +kernel, by decide +kernel, by decide +kernel, fun h => absurd h (by decide), Or.inr (by decide), by decide, by decide, by decide⟩
theorem mwS_127 : mwS mr_127 := ⟨rfl, by decide +kernel, by decide +kernel, by decide +kernel, by decide +kernel, fun h => absurd h (by decide), Or.inr (by decide), by decide, by decide, by decide⟩
theorem mwS_128 : mwS mr_128 := ⟨rfl, by decide +kernel, by decide +kernel, by decide +kernel, by decide +kernel, fun h => absurd h (by decide), Or.inr (by decide), by decide, by decide, by decide⟩
theorem mwS_129 : mwS mr_129 := ⟨rfl, by decide +kernel, by decide +kernel, by decide +kernel, by decide +kernel, fun h => absurd h (by decide), Or.inr (by decide), by decide, by decide, by decide⟩
theorem mwS_130 : mwS mr_130 := ⟨rfl, by decide +kernel, by decide +kernel, by decide +kernel, by decide +kernel, fun h => absurd h (by decide), Or.inr (by decide), by decide, by decide, by decide⟩
theorem mwS_131 : mwS mr_131 := ⟨rfl, by decide +kernel, by decide +kernel, by decide +kernel, by decide +kernel, fun h => absurd h (by decide), Or.inr (by decide), by decide, by decide, by decide⟩
theorem mwS_132 : mwS mr_132 := ⟨rfl, by decide +kernel, by decide +kernel, by decide +kernel, by decide +kernel, fun h => absurd h (by decide), Or.inr (by decide), by decide, by decide, by decide⟩
theorem mwS_133 : mwS mr_133 := ⟨rfl, by decide +kernel, by decide +kernel, by decide +kernel, by decide +kernel, fun h => absurd h (by decide), Or.inr (by decide), by decide, by decide, by decide⟩
theorem mwS_134 : mwS mr_134 := ⟨rfl, by decide +kernel, by decide +kernel, by decide +kernel, by decide +kernel, fun h => absurd h (by decide), Or.inr (by decide), by decide, by decide, by decide⟩
theorem mwS_135 : mwS mr_135 := ⟨rfl, by decide +kernel, by decide +kernel, by decide +kernel, by decide +kernel, fun h => absurd h (by decide), Or.inr (by decide), by decide, by decide, by decide⟩
theorem mwS_136 : mwS mr_136 := ⟨rfl, by decide +kernel, by decide +kernel, by decide +kernel, by decide +kernel, fun h => absurd h (by decide), Or.inr (by decide), by decide, by decide, by decide⟩
theorem mwS_137 : mwS mr_137 := ⟨rfl, by decide +kernel, by decide +kernel, by decide +kernel, by decide +kernel, fun h => absurd h (by decide), Or.inr (by decide), by decide, by decide, by decide⟩
theorem mwS_138 : mwS mr_138 := ⟨rfl, by decide +kernel, by decide +kernel, by decide +kernel, by decide +kernel, fun h => absurd h (by decide), Or.inr (by decide), by decide, by decide, by decide⟩
theorem mwS_139 : mwS mr_139 := ⟨rfl, by decide +kernel, by decide +kernel, by decide +kernel, by decide +kernel, fun h => absurd h (by decide), Or.inr (by decide), by decide, by decide, by decide⟩
theorem mwS_140 : mwS mr_140 := ⟨rfl, by decide +kernel, by decide +kernel, by decide +kernel, by decide +kernel, fun h => absurd h (by decide), Or.inl rfl, by decide, by decide, by decide⟩
theorem mwS_141 : mwS mr_141 := ⟨rfl, by decide +kernel, by decide +kernel, by decide +kernel, by decide +kernel, fun h => absurd h (by decide), Or.inl rfl, by decide, by decide, by decide⟩
theorem mwS_142 : mwS mr_142 := ⟨rfl, by decide +kernel, by decide +kernel, by decide +kernel, by decide +kernel, fun h => absurd h (by decide), Or.inl rfl, by decide, by decide, by decide⟩
theorem mwS_143 : mwS mr_143 := ⟨rfl, by decide +kernel, by decide +kernel, by decide +kernel, by decide +kernel, fun h => absurd h (by decide), Or.inl rfl, by decide, by decide, by decide⟩
theorem mwS_144 : mwS mr_144 := ⟨rfl, by decide +kernel, by decide +kernel, by decide +kernel, by decide +kernel, fun h => absurd h (by decide), Or.inl rfl, by decide, by decide, by decide⟩
theorem mwS_145 : mwS mr_145 := ⟨rfl, by decide +kernel, by decide +kernel, by decide +kernel, by decide +kernel, fun h => absurd h (by decide), Or.inl rfl, by decide, by decide, by decide⟩
theorem mwS_146 : mwS mr_146 := ⟨rfl, by decide +kernel, by decide +kernel, by decide +kernel, by decide +kernel, fun h => absurd h (by decide), Or.inl rfl, by decide, by decide, by decide⟩
theorem mwS_147 : mwS mr_147 := ⟨rfl, by decide +kernel, by decide +kernel, by decide +kernel, by decide +kernel, fun h => absurd h (by decide), Or.inl rfl, by decide, by decide, by decide⟩
theorem mwS_148 : mwS mr_148 := ⟨rfl, by decide +kernel, by decide +kernel, by decide +kernel, by decide +kernel, fun h => absurd h (by decide), Or.inl rfl, by decide, by decide, by decide⟩
theorem mwS_149 : mwS mr_149 := ⟨rfl, by decide +kernel, by decide +kernel, by decide +kernel, by decide +kernel, fun h => absurd h (by decide), Or.inl rfl, by decide, by decide, by decide⟩
theorem mwS_150 : mwS mr_150 := ⟨rfl, by decide +kernel, by decide +kernel, by decide +kernel, by decide +kernel, fun h => absurd h (by decide), Or.inl rfl, by decide, by decide, by decide⟩
theorem mwS_151 : mwS mr_151 := ⟨rfl, by decide +kernel, by decide +kernel, by decide +kernel, by decide +kernel, fun h => absurd h (by decide), Or.inl rfl, by decide, by decide, by decide⟩
theorem mwS_152 : mwS mr_152 := ⟨rfl, by decide +kernel, by decide +kernel, by decide +kernel, by decide +kernel, fun h => absurd h (by decide), Or.inr (by decide), by decide, by decide, by decide⟩
theorem mwS_153 : mwS mr_153 := ⟨rfl, by decide +kernel, by decide +kernel, by decide +kernel, by decide +kernel, fun h => absurd h (by decide), Or.inr (by decide), by decide, by decide, by decide⟩
theorem mwS_154 : mwS mr_154 := ⟨rfl, by decide +kernel, by decide +kernel, by decide +kernel, by decide +kernel, fun h => absurd h (by decide), Or.inr (by decide), by decide, by decide, by decide⟩
theorem mwS_155 : mwS mr_155 := ⟨rfl, by decide +kernel, by decide +kernel, by decide +kernel, by decide +kernel, fun h => absurd h (by decide), Or.inr (by decide), by decide, by decide, by decide⟩
theorem mwS_156 : mwS mr_156 := ⟨rfl, by decide +kernel, by decide +kernel, by decide +kernel, by decide +kernel, fun h => absurd h (by decide), Or.inr (by decide), by decide, by decide, by decide⟩
theorem mwS_157 : mwS mr_157 := ⟨rfl, by decide +kernel, by decide +kernel, by decide +kernel, by decide +kernel, fun h => absurd h (by decide), Or.inr (by decide), by decide, by decide, by decide⟩
theorem mwS_158 : mwS mr_158 := ⟨rfl, by decide +kernel, by decide +kernel, by decide +kernel, by decide +kernel, fun h => absurd h (by decide), Or.inr (by decide), by decide, by decide, by decide⟩
theorem mwS_159 : mwS mr_159 := ⟨rfl, by decide +kernel, by decide +kernel, by decide +kernel, by decide +kernel, fun h => absurd h (by decide), Or.inl rfl, by decide, by decide, by decide⟩
theorem mwS_160 : mwS mr_160 := ⟨rfl, by decide +kernel, by decide +kernel, by decide +kernel, by decide +kernel, fun h => absurd h (by decide), Or.inr (by decide), by decide, by decide, by decide⟩
theorem mwS_161 : mwS mr_161 := ⟨rfl, by decide +kernel, by decide +kernel, by decide +kernel, by decide +kernel, fun h => absurd h (by decide), Or.inr (by decide), by decide, by decide, by decide⟩
theorem mwS_162 : mwS mr_162 := ⟨rfl, by decide +kernel, by decide +kernel, by decide +kernel, by decide +kernel, fun h => absurd h (by decide), Or.inr (by decide), by decide, by decide, by decide⟩
theorem mwS_163 : mwS mr_163 := ⟨rfl, by decide +kernel, by decide +kernel, by decide +kernel, by decide +kernel, fun h => absurd h (by decide), Or.inr (by decide), by decide, by decide, by decide⟩
theorem mwS_164 : mwS mr_164 := ⟨rfl, by decide +kernel, by decide +kernel, by decide +kernel, by decide +kernel, fun h => absurd h (by decide), Or.inr (by decide), by decide, by decide, by decide⟩
theorem mwS_165 : mwS mr_165 := ⟨rfl, by decide +kernel, by decide +kernel, by decide +kernel, by decide +kernel, fun h => absurd h (by decide), Or.inr (by decide), by decide, by decide, by decide⟩
theorem mwS_166 : mwS mr_166 := ⟨rfl, by decide +kernel, by decide +kernel, by decide +kernel, by decide +kernel, fun h => absurd h (by decide), Or.inr (by decide), by decide, by decide, by decide⟩
theorem mwS_167 : mwS mr_167 := ⟨rfl, by decide +kernel, by decide +kernel, by decide +kernel, by decide +kernel, fun h => absurd h (by decide), Or.inr (by decide), by decide, by decide, by decide⟩
theorem mwS_168 : mwS mr_168 := ⟨rfl, by decide +kernel, by decide +kernel, by decide +kernel, by decide +kernel, fun h => absurd h (by decide), Or.inr (by decide), by decide, by decide, by decide⟩
theorem mwS_169 : mwS mr_169 := ⟨rfl, by decide +kernel, by decide +kernel, by decide +kernel, by decide +kernel, fun h => absurd h (by decide), Or.inr (by decide), by decide, by decide, by decide⟩
theorem mwS_170 : mwS mr_170 := ⟨rfl, by decide +kernel, by decide +kernel, by decide +kernel, by decide +kernel, fun h => absurd h (by decide), Or.inl rfl, by decide, by decide, by decide⟩
theorem mwS_171 : mwS mr_171 := ⟨rfl, by decide +kernel, by decide +kernel, by decide +kernel, by decide +kernel, fun _ => ⟨rfl, rfl⟩, Or.inr (by decide), by decide, by decide, by decide⟩
theorem mwS_172 : mwS mr_172 := ⟨rfl, by decide +kernel, by decide +kernel, by decide +kernel, by decide +kernel, fun h => absurd h (by decide), Or.inr (by decide), by decide, by decide, by decide⟩
theorem mwS_173 : mwS mr_173 := ⟨rfl, by decide +kernel, by decide +kernel, by decide +kernel, by decide +kernel, fun h => absurd h (by decide), Or.inl rfl, by decide, by decide, by decide⟩
theorem mwS_174 : mwS mr_174 := ⟨rfl, by decide +kernel, by decide +kernel, by decide +kernel, by decide +kernel, fun h => absurd h (by decide), Or.inl rfl, by decide, by decide, by decide⟩
theorem mwS_175 : mwS mr_175 := ⟨rfl, by decide +kernel, by decide +kernel, by decide +kernel, by decide +kernel, fun h => absurd h (by decide), Or.inl rfl, by decide, by decide, by decide⟩
theorem mwS_176 : mwS mr_176 := ⟨rfl, by decide +kernel, by decide +kernel, by decide +kernel, by decide +kernel, fun h => absurd h (by decide), Or.inl rfl, by decide, by decide, by decide⟩
theorem mwS_177 : mwS mr_177 := ⟨rfl, by decide +kernel, by decide +kernel, by decide +kernel, by decide +kernel, fun h => absurd h (by decide), Or.inr (by decide), by decide, by decide, by decide⟩
theorem mwS_178 : mwS mr_178 := ⟨rfl, by decide +kernel, by decide +kernel, by decide +kernel, by decide +kernel, fun h => absurd h (by decide), Or.inr (by decide), by decide, by decide, by decide⟩
theorem mwS_179 : mwS mr_179 := ⟨rfl, by decide +kernel, by decide +kernel, by decide +kernel, by decide +kernel, fun h => absurd h (by decide), Or.inr (by decide), by decide, by decide, by decide⟩
theorem mwS_180 : mwS mr_180 := ⟨rfl, by decide +kernel, by decide +kernel, by decide +kernel, by decide +kernel, fun h => absurd h (by decide), Or.inr (by decide), by decide, by decide, by decide⟩
theorem mwS_181 : mwS mr_181 := ⟨rfl, by decide +kernel, by decide +kernel, by decide +kernel, by decide +kernel, fun h => absurd h (by decide), Or.inr (by decide), by decide, by decide, by decide⟩
theorem mwS_182 : mwS mr_182 := ⟨rfl, by decide +kernel, by decide +kernel, by decide +kernel, by decide +kernel, fun h => absurd h (by decide), Or.inr (by decide), by decide, by decide, by decide⟩
theorem mwS_183 : mwS mr_183 := ⟨rfl, by decide +kernel, by decide +kernel, by decide +kernel, by decide +kernel, fun h => absurd h (by decide), Or.inl rfl, by decide, by decide, by decide⟩
theorem mwS_184 : mwS mr_184 := ⟨rfl, by decide +kernel, by decide +kernel, by decide +kernel, by decide +kernel, fun h => absurd h (by decide), Or.inr (by decide), by decide, by decide, by decide⟩
theorem mwS_185 : mwS mr_185 := ⟨rfl, by decide +kernel, by decide +kernel, by decide +kernel, by decide +kernel, fun h => absurd h (by decide), Or.inr (by decide), by decide, by decide, by decide⟩
theorem mwS_186 : mwS mr_186 := ⟨rfl, by decide +kernel, by decide +kernel, by decide +kernel, by decide +kernel, fun h => absurd h (by decide), Or.inr (by decide), by decide, by decide, by decide⟩
theorem mwS_187 : mwS mr_187 := ⟨rfl, by decide +kernel, by decide +kernel, by decide +kernel, by decide +kernel, fun h => absurd h (by decide), Or.inr (by decide), by decide, by decide, by decide⟩
theorem mwS_188 : mwS mr_188 := ⟨rfl, by decide +kernel, by decide +kernel, by decide +kernel, by decide +kernel, fun h => absurd h (by decide), Or.inr (by decide), by decide, by decide, by decide⟩
theorem mwS_189 : mwS mr_189 := ⟨rfl, by decide +kernel, by decide +kernel, by decide +kernel, by decide +kernel, fun h => absurd h (by decide), Or.inr (by decide), by decide, by decide, by decide⟩
theorem mwS_190 : mwS mr_190 := ⟨rfl, by decide +kernel, by decide +kernel, by decide +kernel, by decide +kernel, fun h => absurd h (by decide), Or.inr (by decide), by decide, by decide, by decide⟩
theorem mwS_191 : mwS mr_191 := ⟨rfl, by decide +kernel, by decide +kernel, by decide +kernel, by decide +kernel, fun h => absurd h (by decide), Or.inr (by decide), by decide, by decide, by decide⟩
theorem mwS_192 : mwS mr_192 := ⟨rfl, by decide +kernel, by decide +kernel, by decide +kernel, by decide +kernel, fun h => absurd h (by decide), Or.inr (by decide), by decide, by decide, by decide⟩
theorem mwS_193 : mwS mr_193 := ⟨rfl, by decide +kernel, by decide +kernel, by decide +kernel, by decide +kernel, fun h => absurd h (by decide), Or.inr (by decide), by decide, by decide, by decide⟩
theorem mwS_194 : mwS mr_194 := ⟨rfl, by decide +kernel, by decide +kernel, by decide +kernel, by decide +kernel, fun h => absurd h (by decide), Or.inr (by decide), by decide, by decide, by decide⟩
theorem mwS_195 : mwS mr_195 := ⟨rfl, by decide +kernel, by decide +kernel, by decide +kernel, by decide +kernel, fun h => absurd h (by decide), Or.inr (by decide), by decide, by decide, by decide⟩
theorem mwS_196 : mwS mr_196 := ⟨rfl, by decide +kernel, by decide +kernel, by decide +kernel, by decide +kernel, fun h => absurd h (by decide), Or.inr (by decide), by decide, by decide, by decide⟩
theorem mwS_197 : mwS mr_197 := ⟨rfl, by decide +kernel, by decide +kernel, by decide +kernel, by decide +kernel, fun h => absurd h (by decide), Or.inr (by decide), by decide, by decide, by decide⟩
theorem mwS_198 : mwS mr_198 := ⟨rfl, by decide +kernel, by decide +kernel, by decide +kernel, by decide +kernel, fun h => absurd h (by decide), Or.inr (by decide), by decide, by decide, by decide⟩
theorem mwS_199 : mwS mr_199 := ⟨rfl, by decide +kernel, by decide +kernel, by decide +kernel, by decide +kernel, fun h => absurd h (by decide), Or.inr (by decide), by decide, by decide, by decide⟩
theorem mwS_200 : mwS mr_200 := ⟨rfl, by decide +kernel, by decide +kernel, by decide +kernel, by decide +kernel, fun h => absurd h (by decide), Or.inr (by decide), by decide, by decide, by decide⟩
theorem mwS_201 : mwS mr_201 := ⟨rfl, by decide +kernel, by decide +kernel, by decide +kernel, by decide +kernel, fun h => absurd h (by decide), Or.inr (by decide), by decide, by decide, by decide⟩
theorem mwS_202 : mwS mr_202 := ⟨rfl, by decide +kernel, by decide +kernel, by decide +kernel, by decide +kernel, fun h => absurd h (by decide), Or.inl rfl, by decide, by decide, by decide⟩
theorem mwS_203 : mwS mr_203 := ⟨rfl, by decide +kernel, by decide +kernel, by decide +kernel, by decide +kernel, fun h => absurd h (by decide), Or.inl rfl, by decide, by decide, by decide⟩
theorem mwS_204 : mwS mr_204 := ⟨rfl, by decide +kernel, by decide +kernel, by decide +kernel, by decide +kernel, fun h => absurd h (by decide), Or.inl rfl, by decide, by decide, by decide⟩
theorem mwS_205 : mwS mr_205 := ⟨rfl, by decide +kernel, by decide +kernel, by decide +kernel, by decide +kernel, fun h => absurd h (by decide), Or.inr (by decide), by decide, by decide, by decide⟩
theorem mwS_206 : mwS mr_206 := ⟨rfl, by decide +kernel, by decide +kernel, by decide +kernel, by decide +kernel, fun h => absurd h (by decide), Or.inr (by decide), by decide, by decide, by decide⟩
theorem mwS_207 : mwS mr_207 := ⟨rfl, by decide +kernel, by decide +kernel, by decide +kernel, by decide +kernel, fun h => absurd h (by decide), Or.inr (by decide), by decide, by decide, by decide⟩
theorem mwS_208 : mwS mr_208 := ⟨rfl, by decide +kernel, by decide +kernel, by decide +kernel, by decide +kernel, fun h => absurd h (by decide), Or.inr (by decide), by decide, by decide, by decide⟩
theorem mwS_209 : mwS mr_209 := ⟨rfl, by decide +kernel, by decide +kernel, by decide +kernel, by decide +kernel, fun h => absurd h (by decide), Or.inr (by decide), by decide, by decide, by decide⟩
theorem mwS_210 : mwS mr_210 := ⟨rfl, by decide +kernel, by decide +kernel, by decide +kernel, by decide +kernel, fun h => absurd h (by decide), Or.inr (by decide), by decide, by decide, by decide⟩
theorem mwS_211 : mwS mr_211 := ⟨rfl, by decide +kernel, by decide +kernel, by decide +kernel, by decide +kernel, fun h => absurd h (by decide), Or.inr (by decide), by decide, by decide, by decide⟩
theorem mwS_212 : mwS mr_212 := ⟨rfl, by decide +kernel, by decide +kernel, by decide +kernel, by decide +kernel, fun h => absurd h (by decide), Or.inr (by decide), by decide, by decide, by decide⟩
theorem mwS_213 : mwS mr_213 := ⟨rfl, by decide +kernel, by decide +kernel, by decide +kernel, by decide +kernel, fun h => absurd h (by decide), Or.inr (by decide), by decide, by decide, by decide⟩
theorem mwS_214 : mwS mr_214 := ⟨rfl, by decide +kernel, by decide +kernel, by decide +kernel, by decide +kernel, fun h => absurd h (by decide), Or.inr (by decide), by decide, by decide, by decide⟩
theorem mwS_215 : mwS mr_215 := ⟨rfl, by decide +kernel, by decide +kernel, by decide +kernel, by decide +kernel, fun h => absurd h (by decide), Or.inr (by decide), by decide, by decide, by decide⟩
theorem mwS_216 : mwS mr_216 := ⟨rfl, by decide +kernel, by decide +kernel, by decide +kernel, by decide +kernel, fun h => absurd h (by decide), Or.inr (by decide), by decide, by decide, by decide⟩
theorem mwS_217 : mwS mr_217 := ⟨rfl, by decide +kernel, by decide +kernel, by decide +kernel, by decide +kernel, fun h => absurd h (by decide), Or.inr (by decide), by decide, by decide, by decide⟩
theorem mwS_218 : mwS mr_218 := ⟨rfl, by decide +kernel, by decide +kernel, by decide +kernel, by decide +kernel, fun h => absurd h (by decide), Or.inr (by decide), by decide, by decide, by decide⟩
theorem mwS_219 : mwS mr_219 := ⟨rfl, by decide +kernel, by decide +kernel, by decide +kernel, by decide +kernel, fun h => absurd h (by decide), Or.inr (by decide), by decide, by decide, by decide⟩
theorem mwS_220 : mwS mr_220 := ⟨rfl, by decide +kernel, by decide +kernel, by decide +kernel, by decide +kernel, fun h => absurd h (by decide), Or.inr (by decide), by decide, by decide, by decide⟩
theorem mwS_221 : mwS mr_221 := ⟨rfl, by decide +kernel, by decide +kernel, by decide +kernel, by decide +kernel, fun h => absurd h (by decide), Or.inr (by decide), by decide, by decide, by decide⟩
theorem mwS_222 : mwS mr_222 := ⟨rfl, by decide +kernel, by decide +kernel, by decide +kernel, by decide +kernel, fun h => absurd h (by decide), Or.inr (by decide), by decide, by decide, by decide⟩
theorem mwS_223 : mwS mr_223 := ⟨rfl, by decide +kernel, by decide +kernel, by decide +kernel, by decide +kernel, fun h => absurd h (by decide), Or.inr (by decide), by decide, by decide, by decide⟩
theorem mwS_224 : mwS mr_224 := ⟨rfl, by decide +kernel, by decide +kernel, by decide +kernel, by decide +kernel, fun h => absurd h (by decide), Or.inr (by decide), by decide, by decide, by decide⟩
theorem mwS_225 : mwS mr_225 := ⟨rfl, by decide +kernel, by decide +kernel, by decide +kernel, by decide +kernel, fun h => absurd h (by decide), Or.inr (by decide), by decide, by decide, by decide⟩
theorem mwS_226 : mwS mr_226 := ⟨rfl, by decide +kernel, by decide +kernel, by decide +kernel, by decide +kernel, fun h => absurd h (by decide), Or.inr (by decide), by decide, by decide, by decide⟩
theorem mwS_227 : mwS mr_227 := ⟨rfl, by decide +kernel, by decide +kernel, by decide +kernel, by decide +kernel, fun h => absurd h (by decide), Or.inr (by decide), by decide, by decide, by decide⟩
theorem mwS_228 : mwS mr_228 := ⟨rfl, by decide +kernel, by decide +kernel, by decide +kernel, by decide +kernel, fun h => absurd h (by decide), Or.inr (by decide), by decide, by decide, by decide⟩
theorem mwS_229 : mwS mr_229 := ⟨rfl, by decide +kernel, by decide +kernel, by decide +kernel, by decide +kernel, fun h => absurd h (by decide), Or.inr (by decide), by decide, by decide, by decide⟩
theorem mwS_230 : mwS mr_230 := ⟨rfl, by decide +kernel, by decide +kernel, by decide +kernel, by decide +kernel, fun h => absurd h (by decide), Or.inr (by decide), by decide, by decide, by decide⟩
theorem mwS_231 : mwS mr_231 := ⟨rfl, by decide +kernel, by decide +kernel, by decide +kernel, by decide +kernel, fun h => absurd h (by decide), Or.inr (by decide), by decide, by decide, by decide⟩
theorem mwS_232 : mwS mr_232 := ⟨rfl, by decide +kernel, by decide +kernel, by decide +kernel, by decide +kernel, fun h => absurd h (by decide), Or.inr (by decide), by decide, by decide, by decide⟩
theorem mwS_233 : mwS mr_233 := ⟨rfl, by decide +kernel, by decide +kernel, by decide +kernel, by decide +kernel, fun h => absurd h (by decide), Or.inr (by decide), by decide, by decide, by decide⟩
theorem mwS_234 : mwS mr_234 := ⟨rfl, by decide +kernel, by decide +kernel, by decide +kernel, by decide +kernel, fun h => absurd h (by decide), Or.inr (by decide), by decide, by decide, by decide⟩
theorem mwS_235 : mwS mr_235 := ⟨rfl, by decide +kernel, by decide +kernel, by decide +kernel, by decide +kernel, fun h => absurd h (by decide), Or.inr (by decide), by decide, by decide, by decide⟩
theorem mwS_236 : mwS mr_236 := ⟨rfl, by decide +kernel, by decide +kernel, by decide +kernel, by decide +kernel, fun h => absurd h (by decide), Or.inr (by decide), by decide, by decide, by decide⟩
theorem mwS_237 : mwS mr_237 := ⟨rfl, by decide +kernel, by decide +kernel, by decide +kernel, by decide +kernel, fun h => absurd h (by decide), Or.inr (by decide), by decide, by decide, by decide⟩
theorem mwS_238 : mwS mr_238 := ⟨rfl, by decide +kernel, by decide +kernel, by decide +kernel, by decide +kernel, fun h => absurd h (by decide), Or.inr (by decide), by decide, by decide, by decide⟩
theorem mwS_239 : mwS mr_239 := ⟨rfl, by decide +kernel, by decide +kernel, by decide +kernel, by decide +kernel, fun h => absurd h (by decide), Or.inr (by decide), by decide, by decide, by decide⟩
theorem mwS_240 : mwS mr_240 := ⟨rfl, by decide +kernel, by decide +kernel, by decide +kernel, by decide +kernel, fun h => absurd h (by decide), Or.inr (by decide), by decide, by decide, by decide⟩
theorem mwS_241 : mwS mr_241 := ⟨rfl, by decide +kernel, by decide +kernel, by decide +kernel, by decide +kernel, fun h => absurd h (by decide), Or.inr (by decide), by decide, by decide, by decide⟩
theorem mwS_242 : mwS mr_242 := ⟨rfl, by decide +kernel, by decide +kernel, by decide +kernel, by decide +kernel, fun h => absurd h (by decide), Or.inr (by decide), by decide, by decide, by decide⟩
theorem mwS_243 : mwS mr_243 := ⟨rfl, by decide +kernel, by decide +kernel, by decide +kernel, by decide +kernel, fun h => absurd h (by decide), Or.inr (by decide), by decide, by decide, by decide⟩
theorem mwS_244 : mwS mr_244 := ⟨rfl, by decide +kernel, by decide +kernel, by decide +kernel, by decide +kernel, fun h => absurd h (by decide), Or.inr (by decide), by decide, by decide, by decide⟩
theorem mwS_245 : mwS mr_245 := ⟨rfl, by decide +kernel, by decide +kernel, by decide +kernel, by decide +kernel, fun h => absurd h (by decide), Or.inr (by decide), by decide, by decide, by decide⟩
theorem mwS_246 : mwS mr_246 := ⟨rfl, by decide +kernel, by decide +kernel, by decide +kernel, by decide +kernel, fun h => absurd h (by decide), Or.inr (by decide), by decide, by decide, by decide⟩
theorem mwS_247 : mwS mr_247 := ⟨rfl, by decide +kernel, by decide +kernel, by decide +kernel, by decide +kernel, fun h => absurd h (by decide), Or.inr (by decide), by decide, by decide, by decide⟩
theorem mwS_248 : mwS mr_248 := ⟨rfl, by decide +kernel, by decide +kernel, by decide +kernel, by decide +kernel, fun h => absurd h (by decide), Or.inr (by decide), by decide, by decide, by decide⟩
theorem mwS_249 : mwS mr_249 := ⟨rfl, by decide +kernel, by decide +kernel, by decide +kernel, by decide +kernel, fun h => absurd h (by decide), Or.inr (by decide), by decide, by decide, by decide⟩
theorem mwS_250 : mwS mr_250 := ⟨rfl, by decide +kernel, by decide +kernel, by decide +kernel, by decide +kernel, fun h => absurd h (by decide), Or.inr (by decide), by decide, by decide, by decide⟩
theorem mwS_251 : mwS mr_251 := ⟨rfl, by decide +kernel, by decide +kernel, by decide +kernel, by decide +kernel, fun h => absurd h (by decide), Or.inr (by decide), by decide, by decide, by decide⟩
theorem mwS_252 : mwS mr_252 := ⟨rfl, by decide +kernel, by decide +kernel, by decide +kernel, by decide +kernel, fun h => absurd h (by decide), Or.inr (by decide), by decide, by decide, by decide⟩
theorem mwS_253 : mwS mr_253 := ⟨rfl, by decide +kernel, by decide +kernel, by decide +kernel, by decide +kernel, fun h => absurd h (by decide), Or.inr (by decide), by decide, by decide, by decide⟩
theorem mwS_254 : mwS mr_254 := ⟨rfl, by decide +kernel, by decide +kernel, by decide +kernel, by decide +kernel, fun h => absurd h (by decide), Or.inr (by decide), by decide, by decide, by decide⟩
theorem mwS_255 : mwS mr_255 := ⟨rfl, by decide +kernel, by decide +kernel, by decide +kernel, by decide +kernel, fun h => absurd h (by decide), Or.inr (by decide), by decide, by decide, by decide⟩
theorem mwS_256 : mwS mr_256 := ⟨rfl, by decide +kernel, by decide +kernel, by decide +kernel, by decide +kernel, fun h => absurd h (by decide), Or.inr (by decide), by decide, by decide, by decide⟩
theorem mwS_257 : mwS mr_257 := ⟨rfl, by decide +kernel, by decide +kernel, by decide +kernel, by decide +kernel, fun h => absurd h (by decide), Or.inr (by decide), by decide, by decide, by decide⟩
theorem mwS_258 : mwS mr_258 := ⟨rfl, by decide +kernel, by decide +kernel, by decide +kernel, by decide +kernel, fun h => absurd h (by decide), Or.inr (by decide), by decide, by decide, by decide⟩
theorem mwS_259 : mwS mr_259 := ⟨rfl, by decide +kernel, by decide +kernel, by decide +kernel, by decide +kernel, fun h => absurd h (by decide), Or.inr (by decide), by decide, by decide, by decide⟩
theorem mwS_260 : mwS mr_260 := ⟨rfl, by decide +kernel, by decide +kernel, by decide +kernel, by decide +kernel, fun h => absurd h (by decide), Or.inr (by decide), by decide, by decide, by decide⟩
theorem mwS_261 : mwS mr_261 := ⟨rfl, by decide +kernel, by decide +kernel, by decide +kernel, by decide +kernel, fun h => absurd h (by decide), Or.inl rfl, by decide, by decide, by decide⟩
def mOkC (r : mR) : Prop := r.2.2.2.2.2.2.2.2.2.1.all (mChI r.2.2.2.2.1 (decide (r.2.2.2.2.2.2.1 = 2)) (mBz r.2.2.2.1) r.2.1) = true
def mOk (r : mR) : Prop := mwR r ∧ mwS r ∧ mOkC r
theorem mOk_0 : ∀ r ∈ mT_0, mOk r := List.forall_mem_cons.mpr ⟨⟨mwR_0, mwS_0, ck_0⟩, List.forall_mem_cons.mpr ⟨⟨mwR_1, mwS_1, ck_1⟩, List.forall_mem_cons.mpr ⟨⟨mwR_2, mwS_2, ck_2⟩, List.forall_mem_cons.mpr ⟨⟨mwR_3, mwS_3, ck_3⟩, List.forall_mem_cons.mpr ⟨⟨mwR_4, mwS_4, ck_4⟩, List.forall_mem_cons.mpr ⟨⟨mwR_5, mwS_5, ck_5⟩, List.forall_mem_cons.mpr ⟨⟨mwR_6, mwS_6, ck_6⟩, List.forall_mem_cons.mpr ⟨⟨mwR_7, mwS_7, ck_7⟩, List.forall_mem_cons.mpr ⟨⟨mwR_8, mwS_8, ck_8⟩, List.forall_mem_cons.mpr ⟨⟨mwR_9, mwS_9, ck_9⟩, List.forall_mem_cons.mpr ⟨⟨mwR_10, mwS_10, ck_10⟩, List.forall_mem_cons.mpr ⟨⟨mwR_11, mwS_11, ck_11⟩, List.forall_mem_cons.mpr ⟨⟨mwR_12, mwS_12, ck_12⟩, List.forall_mem_cons.mpr ⟨⟨mwR_13, mwS_13, ck_13⟩, List.forall_mem_cons.mpr ⟨⟨mwR_14, mwS_14, ck_14⟩, List.forall_mem_cons.mpr ⟨⟨mwR_15, mwS_15, ck_15⟩, List.forall_mem_cons.mpr ⟨⟨mwR_16, mwS_16, ck_16⟩, List.forall_mem_cons.mpr ⟨⟨mwR_17, mwS_17, ck_17⟩, List.forall_mem_cons.mpr ⟨⟨mwR_18, mwS_18, ck_18⟩, List.forall_mem_cons.mpr ⟨⟨mwR_19, mwS_19, ck_19⟩, fun _ h => absurd h List.not_mem_nil⟩⟩⟩⟩⟩⟩⟩⟩⟩⟩⟩⟩⟩⟩⟩⟩⟩⟩⟩⟩
theorem mOk_1 : ∀ r ∈ mT_1, mOk r := List.forall_mem_cons.mpr ⟨⟨mwR_20, mwS_20, ck_20⟩, List.forall_mem_cons.mpr ⟨⟨mwR_21, mwS_21, ck_21⟩, List.forall_mem_cons.mpr ⟨⟨mwR_22, mwS_22, ck_22⟩, List.forall_mem_cons.mpr ⟨⟨mwR_23, mwS_23, ck_23⟩, List.forall_mem_cons.mpr ⟨⟨mwR_24, mwS_24, ck_24⟩, List.forall_mem_cons.mpr ⟨⟨mwR_25, mwS_25, ck_25⟩, List.forall_mem_cons.mpr ⟨⟨mwR_26, mwS_26, ck_26⟩, List.forall_mem_cons.mpr ⟨⟨mwR_27, mwS_27, ck_27⟩, List.forall_mem_cons.mpr ⟨⟨mwR_28, mwS_28, ck_28⟩, List.forall_mem_cons.mpr ⟨⟨mwR_29, mwS_29, ck_29⟩, List.forall_mem_cons.mpr ⟨⟨mwR_30, mwS_30, ck_30⟩, List.forall_mem_cons.mpr ⟨⟨mwR_31, mwS_31, ck_31⟩, List.forall_mem_cons.mpr ⟨⟨mwR_32, mwS_32, ck_32⟩, List.forall_mem_cons.mpr ⟨⟨mwR_33, mwS_33, ck_33⟩, List.forall_mem_cons.mpr ⟨⟨mwR_34, mwS_34, ck_34⟩, List.forall_mem_cons.mpr ⟨⟨mwR_35, mwS_35, ck_35⟩, List.forall_mem_cons.mpr ⟨⟨mwR_36, mwS_36, ck_36⟩, List.forall_mem_cons.mpr ⟨⟨mwR_37, mwS_37, ck_37⟩, List.forall_mem_cons.mpr ⟨⟨mwR_38, mwS_38, ck_38⟩, List.forall_mem_cons.mpr ⟨⟨mwR_39, mwS_39, ck_39⟩, fun _ h => absurd h List.not_mem_nil⟩⟩⟩⟩⟩⟩⟩⟩⟩⟩⟩⟩⟩⟩⟩⟩⟩⟩⟩⟩
theorem mOk_2 : ∀ r ∈ mT_2, mOk r := List.forall_mem_cons.mpr ⟨⟨mwR_40, mwS_40, ck_40⟩, List.forall_mem_cons.mpr ⟨⟨mwR_41, mwS_41, ck_41⟩, List.forall_mem_cons.mpr ⟨⟨mwR_42, mwS_42, ck_42⟩, List.forall_mem_cons.mpr ⟨⟨mwR_43, mwS_43, ck_43⟩, List.forall_mem_cons.mpr ⟨⟨mwR_44, mwS_44, ck_44⟩, List.forall_mem_cons.mpr ⟨⟨mwR_45, mwS_45, ck_45⟩, List.forall_mem_cons.mpr ⟨⟨mwR_46, mwS_46, ck_46⟩, List.forall_mem_cons.mpr ⟨⟨mwR_47, mwS_47, ck_47⟩, List.forall_mem_cons.mpr ⟨⟨mwR_48, mwS_48, ck_48⟩, List.forall_mem_cons.mpr ⟨⟨mwR_49, mwS_49, ck_49⟩, List.forall_mem_cons.mpr ⟨⟨mwR_50, mwS_50, ck_50⟩, List.forall_mem_cons.mpr ⟨⟨mwR_51, mwS_51, ck_51⟩, List.forall_mem_cons.mpr ⟨⟨mwR_52, mwS_52, ck_52⟩, List.forall_mem_cons.mpr ⟨⟨mwR_53, mwS_53, ck_53⟩, List.forall_mem_cons.mpr ⟨⟨mwR_54, mwS_54, ck_54⟩, List.forall_mem_cons.mpr ⟨⟨mwR_55, mwS_55, ck_55⟩, List.forall_mem_cons.mpr ⟨⟨mwR_56, mwS_56, ck_56⟩, List.forall_mem_cons.mpr ⟨⟨mwR_57, mwS_57, ck_57⟩, List.forall_mem_cons.mpr ⟨⟨mwR_58, mwS_58, ck_58⟩, List.forall_mem_cons.mpr ⟨⟨mwR_59, mwS_59, ck_59⟩, fun _ h => absurd h List.not_mem_nil⟩⟩⟩⟩⟩⟩⟩⟩⟩⟩⟩⟩⟩⟩⟩⟩⟩⟩⟩⟩
theorem mOk_3 : ∀ r ∈ mT_3, mOk r := List.forall_mem_cons.mpr ⟨⟨mwR_60, mwS_60, ck_60⟩, List.forall_mem_cons.mpr ⟨⟨mwR_61, mwS_61, ck_61⟩, List.forall_mem_cons.mpr ⟨⟨mwR_62, mwS_62, ck_62⟩, List.forall_mem_cons.mpr ⟨⟨mwR_63, mwS_63, ck_63⟩, List.forall_mem_cons.mpr ⟨⟨mwR_64, mwS_64, ck_64⟩, List.forall_mem_cons.mpr ⟨⟨mwR_65, mwS_65, ck_65⟩, List.forall_mem_cons.mpr ⟨⟨mwR_66, mwS_66, ck_66⟩, List.forall_mem_cons.mpr ⟨⟨mwR_67, mwS_67, ck_67⟩, List.forall_mem_cons.mpr ⟨⟨mwR_68, mwS_68, ck_68⟩, List.forall_mem_cons.mpr ⟨⟨mwR_69, mwS_69, ck_69⟩, List.forall_mem_cons.mpr ⟨⟨mwR_70, mwS_70, ck_70⟩, List.forall_mem_cons.mpr ⟨⟨mwR_71, mwS_71, ck_71⟩, List.forall_mem_cons.mpr ⟨⟨mwR_72, mwS_72, ck_72⟩, List.forall_mem_cons.mpr ⟨⟨mwR_73, mwS_73, ck_73⟩, List.forall_mem_cons.mpr ⟨⟨mwR_74, mwS_74, ck_74⟩, List.forall_mem_cons.mpr ⟨⟨mwR_75, mwS_75, ck_75⟩, List.forall_mem_cons.mpr ⟨⟨mwR_76, mwS_76, ck_76⟩, List.forall_mem_cons.mpr ⟨⟨mwR_77, mwS_77, ck_77⟩, List.forall_mem_cons.mpr ⟨⟨mwR_78, mwS_78, ck_78⟩, List.forall_mem_cons.mpr ⟨⟨mwR_79, mwS_79, ck_79⟩, fun _ h => absurd h List.not_mem_nil⟩⟩⟩⟩⟩⟩⟩⟩⟩⟩⟩⟩⟩⟩⟩⟩⟩⟩⟩⟩
theorem mOk_4 : ∀ r ∈ mT_4, mOk r := List.forall_mem_cons.mpr ⟨⟨mwR_80, mwS_80, ck_80⟩, List.forall_mem_cons.mpr ⟨⟨mwR_81, mwS_81, ck_81⟩, List.forall_mem_cons.mpr ⟨⟨mwR_82, mwS_82, ck_82⟩, List.forall_mem_cons.mpr ⟨⟨mwR_83, mwS_83, ck_83⟩, List.forall_mem_cons.mpr ⟨⟨mwR_84, mwS_84, ck_84⟩, List.forall_mem_cons.mpr ⟨⟨mwR_85, mwS_85, ck_85⟩, List.forall_mem_cons.mpr ⟨⟨mwR_86, mwS_86, ck_86⟩, List.forall_mem_cons.mpr ⟨⟨mwR_87, mwS_87, ck_87⟩, List.forall_mem_cons.mpr ⟨⟨mwR_88, mwS_88, ck_88⟩, List.forall_mem_cons.mpr ⟨⟨mwR_89, mwS_89, ck_89⟩, List.forall_mem_cons.mpr ⟨⟨mwR_90, mwS_90, ck_90⟩, List.forall_mem_cons.mpr ⟨⟨mwR_91, mwS_91, ck_91⟩, List.forall_mem_cons.mpr ⟨⟨mwR_92, mwS_92, ck_92⟩, List.forall_mem_cons.mpr ⟨⟨mwR_93, mwS_93, ck_93⟩, List.forall_mem_cons.mpr ⟨⟨mwR_94, mwS_94, ck_94⟩, List.forall_mem_cons.mpr ⟨⟨mwR_95, mwS_95, ck_95⟩, List.forall_mem_cons.mpr ⟨⟨mwR_96, mwS_96, ck_96⟩, List.forall_mem_cons.mpr ⟨⟨mwR_97, mwS_97, ck_97⟩, List.forall_mem_cons.mpr ⟨⟨mwR_98, mwS_98, ck_98⟩, List.forall_mem_cons.mpr ⟨⟨mwR_99, mwS_99, ck_99⟩, fun _ h => absurd h List.not_mem_nil⟩⟩⟩⟩⟩⟩⟩⟩⟩⟩⟩⟩⟩⟩⟩⟩⟩⟩⟩⟩
theorem mOk_5 : ∀ r ∈ mT_5, mOk r := List.forall_mem_cons.mpr ⟨⟨mwR_100, mwS_100, ck_100⟩, List.forall_mem_cons.mpr ⟨⟨mwR_101, mwS_101, ck_101⟩, List.forall_mem_cons.mpr ⟨⟨mwR_102, mwS_102, ck_102⟩, List.forall_mem_cons.mpr ⟨⟨mwR_103, mwS_103, ck_103⟩, List.forall_mem_cons.mpr ⟨⟨mwR_104, mwS_104, ck_104⟩, List.forall_mem_cons.mpr ⟨⟨mwR_105, mwS_105, ck_105⟩, List.forall_mem_cons.mpr ⟨⟨mwR_106, mwS_106, ck_106⟩, List.forall_mem_cons.mpr ⟨⟨mwR_107, mwS_107, ck_107⟩, List.forall_mem_cons.mpr ⟨⟨mwR_108, mwS_108, ck_108⟩, List.forall_mem_cons.mpr ⟨⟨mwR_109, mwS_109, ck_109⟩, List.forall_mem_cons.mpr ⟨⟨mwR_110, mwS_110, ck_110⟩, List.forall_mem_cons.mpr ⟨⟨mwR_111, mwS_111, ck_111⟩, List.forall_mem_cons.mpr ⟨⟨mwR_112, mwS_112, ck_112⟩, List.forall_mem_cons.mpr ⟨⟨mwR_113, mwS_113, ck_113⟩, List.forall_mem_cons.mpr ⟨⟨mwR_114, mwS_114, ck_114⟩, List.forall_mem_cons.mpr ⟨⟨mwR_115, mwS_115, ck_115⟩, List.forall_mem_cons.mpr ⟨⟨mwR_116, mwS_116, ck_116⟩, List.forall_mem_cons.mpr ⟨⟨mwR_117, mwS_117, ck_117⟩, List.forall_mem_cons.mpr ⟨⟨mwR_118, mwS_118, ck_118⟩, List.forall_mem_cons.mpr ⟨⟨mwR_119, mwS_119, ck_119⟩, fun _ h => absurd h List.not_mem_nil⟩⟩⟩⟩⟩⟩⟩⟩⟩⟩⟩⟩⟩⟩⟩⟩⟩⟩⟩⟩
theorem mOk_6 : ∀ r ∈ mT_6, mOk r := List.forall_mem_cons.mpr ⟨⟨mwR_120, mwS_120, ck_120⟩, List.forall_mem_cons.mpr ⟨⟨mwR_121, mwS_121, ck_121⟩, List.forall_mem_cons.mpr ⟨⟨mwR_122, mwS_122, ck_122⟩, List.forall_mem_cons.mpr ⟨⟨mwR_123, mwS_123, ck_123⟩, List.forall_mem_cons.mpr ⟨⟨mwR_124, mwS_124, ck_124⟩, List.forall_mem_cons.mpr ⟨⟨mwR_125, mwS_125, ck_125⟩, List.forall_mem_cons.mpr ⟨⟨mwR_126, mwS_126, ck_126⟩, List.forall_mem_cons.mpr ⟨⟨mwR_127, mwS_127, ck_127⟩, List.forall_mem_cons.mpr ⟨⟨mwR_128, mwS_128, ck_128⟩, List.forall_mem_cons.mpr ⟨⟨mwR_129, mwS_129, ck_129⟩, List.forall_mem_cons.mpr ⟨⟨mwR_130, mwS_130, ck_130⟩, List.forall_mem_cons.mpr ⟨⟨mwR_131, mwS_131, ck_131⟩, List.forall_mem_cons.mpr ⟨⟨mwR_132, mwS_132, ck_132⟩, List.forall_mem_cons.mpr ⟨⟨mwR_133, mwS_133, ck_133⟩, List.forall_mem_cons.mpr ⟨⟨mwR_134, mwS_134, ck_134⟩, List.forall_mem_cons.mpr ⟨⟨mwR_135, mwS_135, ck_135⟩, List.forall_mem_cons.mpr ⟨⟨mwR_136, mwS_136, ck_136⟩, List.forall_mem_cons.mpr ⟨⟨mwR_137, mwS_137, ck_137⟩, List.forall_mem_cons.mpr ⟨⟨mwR_138, mwS_138, ck_138⟩, List.forall_mem_cons.mpr ⟨⟨mwR_139, mwS_139, ck_139⟩, fun _ h => absurd h List.not_mem_nil⟩⟩⟩⟩⟩⟩⟩⟩⟩⟩⟩⟩⟩⟩⟩⟩⟩⟩⟩⟩
theorem mOk_7 : ∀ r ∈ mT_7, mOk r := List.forall_mem_cons.mpr ⟨⟨mwR_140, mwS_140, ck_140⟩, List.forall_mem_cons.mpr ⟨⟨mwR_141, mwS_141, ck_141⟩, List.forall_mem_cons.mpr ⟨⟨mwR_142, mwS_142, ck_142⟩, List.forall_mem_cons.mpr ⟨⟨mwR_143, mwS_143, ck_143⟩, List.forall_mem_cons.mpr ⟨⟨mwR_144, mwS_144, ck_144⟩, List.forall_mem_cons.mpr ⟨⟨mwR_145, mwS_145, ck_145⟩, List.forall_mem_cons.mpr ⟨⟨mwR_146, mwS_146, ck_146⟩, List.forall_mem_cons.mpr ⟨⟨mwR_147, mwS_147, ck_147⟩, List.forall_mem_cons.mpr ⟨⟨mwR_148, mwS_148, ck_148⟩, List.forall_mem_cons.mpr ⟨⟨mwR_149, mwS_149, ck_149⟩, List.forall_mem_cons.mpr ⟨⟨mwR_150, mwS_150, ck_150⟩, List.forall_mem_cons.mpr ⟨⟨mwR_151, mwS_151, ck_151⟩, List.forall_mem_cons.mpr ⟨⟨mwR_152, mwS_152, ck_152⟩, List.forall_mem_cons.mpr ⟨⟨mwR_153, mwS_153, ck_153⟩, List.forall_mem_cons.mpr ⟨⟨mwR_154, mwS_154, ck_154⟩, List.forall_mem_cons.mpr ⟨⟨mwR_155, mwS_155, ck_155⟩, List.forall_mem_cons.mpr ⟨⟨mwR_156, mwS_156, ck_156⟩, List.forall_mem_cons.mpr ⟨⟨mwR_157, mwS_157, ck_157⟩, List.forall_mem_cons.mpr ⟨⟨mwR_158, mwS_158, ck_158⟩, List.forall_mem_cons.mpr ⟨⟨mwR_159, mwS_159, ck_159⟩, fun _ h => absurd h List.not_mem_nil⟩⟩⟩⟩⟩⟩⟩⟩⟩⟩⟩⟩⟩⟩⟩⟩⟩⟩⟩⟩
theorem mOk_8 : ∀ r ∈ mT_8, mOk r := List.forall_mem_cons.mpr ⟨⟨mwR_160, mwS_160, ck_160⟩, List.forall_mem_cons.mpr ⟨⟨mwR_161, mwS_161, ck_161⟩, List.forall_mem_cons.mpr ⟨⟨mwR_162, mwS_162, ck_162⟩, List.forall_mem_cons.mpr ⟨⟨mwR_163, mwS_163, ck_163⟩, List.forall_mem_cons.mpr ⟨⟨mwR_164, mwS_164, ck_164⟩, List.forall_mem_cons.mpr ⟨⟨mwR_165, mwS_165, ck_165⟩, List.forall_mem_cons.mpr ⟨⟨mwR_166, mwS_166, ck_166⟩, List.forall_mem_cons.mpr ⟨⟨mwR_167, mwS_167, ck_167⟩, List.forall_mem_cons.mpr ⟨⟨mwR_168, mwS_168, ck_168⟩, List.forall_mem_cons.mpr ⟨⟨mwR_169, mwS_169, ck_169⟩, List.forall_mem_cons.mpr ⟨⟨mwR_170, mwS_170, ck_170⟩, List.forall_mem_cons.mpr ⟨⟨mwR_171, mwS_171, ck_171⟩, List.forall_mem_cons.mpr ⟨⟨mwR_172, mwS_172, ck_172⟩, List.forall_mem_cons.mpr ⟨⟨mwR_173, mwS_173, ck_173⟩, List.forall_mem_cons.mpr ⟨⟨mwR_174, mwS_174, ck_174⟩, List.forall_mem_cons.mpr ⟨⟨mwR_175, mwS_175, ck_175⟩, List.forall_mem_cons.mpr ⟨⟨mwR_176, mwS_176, ck_176⟩, List.forall_mem_cons.mpr ⟨⟨mwR_177, mwS_177, ck_177⟩, List.forall_mem_cons.mpr ⟨⟨mwR_178, mwS_178, ck_178⟩, List.forall_mem_cons.mpr ⟨⟨mwR_179, mwS_179, ck_179⟩, fun _ h => absurd h List.not_mem_nil⟩⟩⟩⟩⟩⟩⟩⟩⟩⟩⟩⟩⟩⟩⟩⟩⟩⟩⟩⟩
theorem mOk_9 : ∀ r ∈ mT_9, mOk r := List.forall_mem_cons.mpr ⟨⟨mwR_180, mwS_180, ck_180⟩, List.forall_mem_cons.mpr ⟨⟨mwR_181, mwS_181, ck_181⟩, List.forall_mem_cons.mpr ⟨⟨mwR_182, mwS_182, ck_182⟩, List.forall_mem_cons.mpr ⟨⟨mwR_183, mwS_183, ck_183⟩, List.forall_mem_cons.mpr ⟨⟨mwR_184, mwS_184, ck_184⟩, List.forall_mem_cons.mpr ⟨⟨mwR_185, mwS_185, ck_185⟩, List.forall_mem_cons.mpr ⟨⟨mwR_186, mwS_186, ck_186⟩, List.forall_mem_cons.mpr ⟨⟨mwR_187, mwS_187, ck_187⟩, List.forall_mem_cons.mpr ⟨⟨mwR_188, mwS_188, ck_188⟩, List.forall_mem_cons.mpr ⟨⟨mwR_189, mwS_189, ck_189⟩, List.forall_mem_cons.mpr ⟨⟨mwR_190, mwS_190, ck_190⟩, List.forall_mem_cons.mpr ⟨⟨mwR_191, mwS_191, ck_191⟩, List.forall_mem_cons.mpr ⟨⟨mwR_192, mwS_192, ck_192⟩, List.forall_mem_cons.mpr ⟨⟨mwR_193, mwS_193, ck_193⟩, List.forall_mem_cons.mpr ⟨⟨mwR_194, mwS_194, ck_194⟩, List.forall_mem_cons.mpr ⟨⟨mwR_195, mwS_195, ck_195⟩, List.forall_mem_cons.mpr ⟨⟨mwR_196, mwS_196, ck_196⟩, List.forall_mem_cons.mpr ⟨⟨mwR_197, mwS_197, ck_197⟩, List.forall_mem_cons.mpr ⟨⟨mwR_198, mwS_198, ck_198⟩, List.forall_mem_cons.mpr ⟨⟨mwR_199, mwS_199, ck_199⟩, fun _ h => absurd h List.not_mem_nil⟩⟩⟩⟩⟩⟩⟩⟩⟩⟩⟩⟩⟩⟩⟩⟩⟩⟩⟩⟩
theorem mOk_10 : ∀ r ∈ mT_10, mOk r := List.forall_mem_cons.mpr ⟨⟨mwR_200, mwS_200, ck_200⟩, List.forall_mem_cons.mpr ⟨⟨mwR_201, mwS_201, ck_201⟩, List.forall_mem_cons.mpr ⟨⟨mwR_202, mwS_202, ck_202⟩, List.forall_mem_cons.mpr ⟨⟨mwR_203, mwS_203, ck_203⟩, List.forall_mem_cons.mpr ⟨⟨mwR_204, mwS_204, ck_204⟩, List.forall_mem_cons.mpr ⟨⟨mwR_205, mwS_205, ck_205⟩, List.forall_mem_cons.mpr ⟨⟨mwR_206, mwS_206, ck_206⟩, List.forall_mem_cons.mpr ⟨⟨mwR_207, mwS_207, ck_207⟩, List.forall_mem_cons.mpr ⟨⟨mwR_208, mwS_208, ck_208⟩, List.forall_mem_cons.mpr ⟨⟨mwR_209, mwS_209, ck_209⟩, List.forall_mem_cons.mpr ⟨⟨mwR_210, mwS_210, ck_210⟩, List.forall_mem_cons.mpr ⟨⟨mwR_211, mwS_211, ck_211⟩, List.forall_mem_cons.mpr ⟨⟨mwR_212, mwS_212, ck_212⟩, List.forall_mem_cons.mpr ⟨⟨mwR_213, mwS_213, ck_213⟩, List.forall_mem_cons.mpr ⟨⟨mwR_214, mwS_214, ck_214⟩, List.forall_mem_cons.mpr ⟨⟨mwR_215, mwS_215, ck_215⟩, List.forall_mem_cons.mpr ⟨⟨mwR_216, mwS_216, ck_216⟩, List.forall_mem_cons.mpr ⟨⟨mwR_217, mwS_217, ck_217⟩, List.forall_mem_cons.mpr ⟨⟨mwR_218, mwS_218, ck_218⟩, List.forall_mem_cons.mpr ⟨⟨mwR_219, mwS_219, ck_219⟩, fun _ h => absurd h List.not_mem_nil⟩⟩⟩⟩⟩⟩⟩⟩⟩⟩⟩⟩⟩⟩⟩⟩⟩⟩⟩⟩
theorem mOk_11 : ∀ r ∈ mT_11, mOk r := List.forall_mem_cons.mpr ⟨⟨mwR_220, mwS_220, ck_220⟩, List.forall_mem_cons.mpr ⟨⟨mwR_221, mwS_221, ck_221⟩, List.forall_mem_cons.mpr ⟨⟨mwR_222, mwS_222, ck_222⟩, List.forall_mem_cons.mpr ⟨⟨mwR_223, mwS_223, ck_223⟩, List.forall_mem_cons.mpr ⟨⟨mwR_224, mwS_224, ck_224⟩, List.forall_mem_cons.mpr ⟨⟨mwR_225, mwS_225, ck_225⟩, List.forall_mem_cons.mpr ⟨⟨mwR_226, mwS_226, ck_226⟩, List.forall_mem_cons.mpr ⟨⟨mwR_227, mwS_227, ck_227⟩, List.forall_mem_cons.mpr ⟨⟨mwR_228, mwS_228, ck_228⟩, List.forall_mem_cons.mpr ⟨⟨mwR_229, mwS_229, ck_229⟩, List.forall_mem_cons.mpr ⟨⟨mwR_230, mwS_230, ck_230⟩, List.forall_mem_cons.mpr ⟨⟨mwR_231, mwS_231, ck_231⟩, List.forall_mem_cons.mpr ⟨⟨mwR_232, mwS_232, ck_232⟩, List.forall_mem_cons.mpr ⟨⟨mwR_233, mwS_233, ck_233⟩, List.forall_mem_cons.mpr ⟨⟨mwR_234, mwS_234, ck_234⟩, List.forall_mem_cons.mpr ⟨⟨mwR_235, mwS_235, ck_235⟩, List.forall_mem_cons.mpr ⟨⟨mwR_236, mwS_236, ck_236⟩, List.forall_mem_cons.mpr ⟨⟨mwR_237, mwS_237, ck_237⟩, List.forall_mem_cons.mpr ⟨⟨mwR_238, mwS_238, ck_238⟩, List.forall_mem_cons.mpr ⟨⟨mwR_239, mwS_239, ck_239⟩, fun _ h => absurd h List.not_mem_nil⟩⟩⟩⟩⟩⟩⟩⟩⟩⟩⟩⟩⟩⟩⟩⟩⟩⟩⟩⟩
theorem mOk_12 : ∀ r ∈ mT_12, mOk r := List.forall_mem_cons.mpr ⟨⟨mwR_240, mwS_240, ck_240⟩, List.forall_mem_cons.mpr ⟨⟨mwR_241, mwS_241, ck_241⟩, List.forall_mem_cons.mpr ⟨⟨mwR_242, mwS_242, ck_242⟩, List.forall_mem_cons.mpr ⟨⟨mwR_243, mwS_243, ck_243⟩, List.forall_mem_cons.mpr ⟨⟨mwR_244, mwS_244, ck_244⟩, List.forall_mem_cons.mpr ⟨⟨mwR_245, mwS_245, ck_245⟩, List.forall_mem_cons.mpr ⟨⟨mwR_246, mwS_246, ck_246⟩, List.forall_mem_cons.mpr ⟨⟨mwR_247, mwS_247, ck_247⟩, List.forall_mem_cons.mpr ⟨⟨mwR_248, mwS_248, ck_248⟩, List.forall_mem_cons.mpr ⟨⟨mwR_249, mwS_249, ck_249⟩, List.forall_mem_cons.mpr ⟨⟨mwR_250, mwS_250, ck_250⟩, List.forall_mem_cons.mpr ⟨⟨mwR_251, mwS_251, ck_251⟩, List.forall_mem_cons.mpr ⟨⟨mwR_252, mwS_252, ck_252⟩, List.forall_mem_cons.mpr ⟨⟨mwR_253, mwS_253, ck_253⟩, List.forall_mem_cons.mpr ⟨⟨mwR_254, mwS_254, ck_254⟩, List.forall_mem_cons.mpr ⟨⟨mwR_255, mwS_255, ck_255⟩, List.forall_mem_cons.mpr ⟨⟨mwR_256, mwS_256, ck_256⟩, List.forall_mem_cons.mpr ⟨⟨mwR_257, mwS_257, ck_257⟩, List.forall_mem_cons.mpr ⟨⟨mwR_258, mwS_258, ck_258⟩, List.forall_mem_cons.mpr ⟨⟨mwR_259, mwS_259, ck_259⟩, fun _ h => absurd h List.not_mem_nil⟩⟩⟩⟩⟩⟩⟩⟩⟩⟩⟩⟩⟩⟩⟩⟩⟩⟩⟩⟩
theorem mOk_13 : ∀ r ∈ [mr_260, mr_261], mOk r := List.forall_mem_cons.mpr ⟨⟨mwR_260, mwS_260, ck_260⟩, List.forall_mem_cons.mpr ⟨⟨mwR_261, mwS_261, ck_261⟩, fun _ h => absurd h List.not_mem_nil⟩⟩
def mTa : List mR := mT_0 ++ (mT_1 ++ (mT_2 ++ (mT_3 ++ (mT_4 ++ (mT_5 ++ (mT_6 ++ (mT_7 ++ (mT_8 ++ (mT_9 ++ (mT_10 ++ (mT_11 ++ (mT_12 ++ ([mr_260, mr_261])))))))))))))
theorem mTa_ok : ∀ r ∈ mTa, mOk r := List.forall_mem_append.mpr ⟨mOk_0, List.forall_mem_append.mpr ⟨mOk_1, List.forall_mem_append.mpr ⟨mOk_2, List.forall_mem_append.mpr ⟨mOk_3, List.forall_mem_append.mpr ⟨mOk_4, List.forall_mem_append.mpr ⟨mOk_5, List.forall_mem_append.mpr ⟨mOk_6, List.forall_mem_append.mpr ⟨mOk_7, List.forall_mem_append.mpr ⟨mOk_8, List.forall_mem_append.mpr ⟨mOk_9, List.forall_mem_append.mpr ⟨mOk_10, List.forall_mem_append.mpr ⟨mOk_11, List.forall_mem_append.mpr ⟨mOk_12, mOk_13⟩⟩⟩⟩⟩⟩⟩⟩⟩⟩⟩⟩⟩
theorem mT_split : mT = mTa ++ [mr_262] := by
  unfold mT mTa
  simp only [List.append_assoc]
  rfl
theorem mTa_len : mTa.length = 262 := by decide +kernel
theorem mT_ok {k : Nat} {r : mR} (hk : k < 262) (h : mT[k]? = some r) : mOk r := by
  rw [mT_split, List.getElem?_append_left (by rw [mTa_len]; exact hk)] at h
  exact mTa_ok r (List.mem_of_getElem? h)
