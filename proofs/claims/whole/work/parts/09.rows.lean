/-! what the tables say of a method -/
def mwR (r : mR) : Prop := Cond.code r.1 r.2.1 r.2.2.1 r.2.2.2.1 ∈ mTb ∧ Cond.initialized r.1.cls ∈ mTb ∧ (if r.2.2.2.2.2.2.1 = 1 then Cond.static r.1 ∈ mTb else Cond.instanceMethod r.1 ∈ mTb) ∧ (r.2.2.2.2.2.2.1 = 0 → Cond.selects r.1.cls r.1 r.1 ∈ mTb)
def mwS (r : mR) : Prop := r.1.cls = mm_cn r.2.2.2.2.1 ∧ plainName r.1.cls = true ∧ r.1.cls ≠ "java/lang/invoke/MethodHandle" ∧ r.1.cls ≠ "java/lang/invoke/VarHandle" ∧ (parseMethodDescriptor r.1.desc).map (fun d => d.parameters.length) = some (if r.2.2.2.2.2.2.1 = 1 then r.2.2.2.2.2.1 else r.2.2.2.2.2.1 - 1) ∧ (r.2.2.2.2.2.2.1 = 2 → r.1.name = "<init>" ∧ r.2.2.2.1 = none) ∧ (r.2.2.2.2.2.2.1 = 1 ∨ 1 ≤ r.2.2.2.2.2.1) ∧ r.2.2.1 ≤ 30 ∧ mBz r.2.2.2.1 < 4 ∧ r.2.2.2.2.2.2.1 ≤ 2
set_option maxRecDepth 100000 in
theorem mwR_0 : mwR mr_0 := ⟨mb_1 (List.mem_of_getElem? (i := 121) rfl) rfl, mb_1 (List.mem_of_getElem? (i := 7) rfl) rfl, mb_1 (List.mem_of_getElem? (i := 120) rfl) rfl, fun h => absurd h (by decide)⟩
set_option maxRecDepth 100000 in
theorem mwR_1 : mwR mr_1 := ⟨mb_3 (List.mem_of_getElem? (i := 5) rfl) rfl, mb_1 (List.mem_of_getElem? (i := 7) rfl) rfl, mb_3 (List.mem_of_getElem? (i := 3) rfl) rfl, fun _ => mb_3 (List.mem_of_getElem? (i := 4) rfl) rfl⟩
set_option maxRecDepth 100000 in
theorem mwR_2 : mwR mr_2 := ⟨mb_2 (List.mem_of_getElem? (i := 210) rfl) rfl, mb_1 (List.mem_of_getElem? (i := 7) rfl) rfl, mb_2 (List.mem_of_getElem? (i := 208) rfl) rfl, fun _ => mb_2 (List.mem_of_getElem? (i := 209) rfl) rfl⟩
set_option maxRecDepth 100000 in
theorem mwR_3 : mwR mr_3 := ⟨mb_3 (List.mem_of_getElem? (i := 26) rfl) rfl, mb_1 (List.mem_of_getElem? (i := 7) rfl) rfl, mb_3 (List.mem_of_getElem? (i := 24) rfl) rfl, fun _ => mb_3 (List.mem_of_getElem? (i := 25) rfl) rfl⟩
set_option maxRecDepth 100000 in
theorem mwR_4 : mwR mr_4 := ⟨mb_2 (List.mem_of_getElem? (i := 206) rfl) rfl, mb_1 (List.mem_of_getElem? (i := 7) rfl) rfl, mb_2 (List.mem_of_getElem? (i := 204) rfl) rfl, fun _ => mb_2 (List.mem_of_getElem? (i := 205) rfl) rfl⟩
set_option maxRecDepth 100000 in
theorem mwR_5 : mwR mr_5 := ⟨mb_3 (List.mem_of_getElem? (i := 77) rfl) rfl, mb_1 (List.mem_of_getElem? (i := 7) rfl) rfl, mb_3 (List.mem_of_getElem? (i := 75) rfl) rfl, fun _ => mb_3 (List.mem_of_getElem? (i := 76) rfl) rfl⟩
set_option maxRecDepth 100000 in
theorem mwR_6 : mwR mr_6 := ⟨mb_5 (List.mem_of_getElem? (i := 118) rfl) rfl, mb_1 (List.mem_of_getElem? (i := 7) rfl) rfl, mb_5 (List.mem_of_getElem? (i := 116) rfl) rfl, fun _ => mb_5 (List.mem_of_getElem? (i := 117) rfl) rfl⟩
set_option maxRecDepth 100000 in
theorem mwR_7 : mwR mr_7 := ⟨mb_5 (List.mem_of_getElem? (i := 143) rfl) rfl, mb_1 (List.mem_of_getElem? (i := 7) rfl) rfl, mb_5 (List.mem_of_getElem? (i := 141) rfl) rfl, fun _ => mb_5 (List.mem_of_getElem? (i := 142) rfl) rfl⟩
set_option maxRecDepth 100000 in
theorem mwR_8 : mwR mr_8 := ⟨mb_3 (List.mem_of_getElem? (i := 155) rfl) rfl, mb_1 (List.mem_of_getElem? (i := 15) rfl) rfl, mb_3 (List.mem_of_getElem? (i := 154) rfl) rfl, fun h => absurd h (by decide)⟩
set_option maxRecDepth 100000 in
theorem mwR_9 : mwR mr_9 := ⟨mb_3 (List.mem_of_getElem? (i := 166) rfl) rfl, mb_1 (List.mem_of_getElem? (i := 15) rfl) rfl, mb_3 (List.mem_of_getElem? (i := 165) rfl) rfl, fun h => absurd h (by decide)⟩
set_option maxRecDepth 100000 in
theorem mwR_10 : mwR mr_10 := ⟨mb_3 (List.mem_of_getElem? (i := 158) rfl) rfl, mb_1 (List.mem_of_getElem? (i := 15) rfl) rfl, mb_3 (List.mem_of_getElem? (i := 157) rfl) rfl, fun h => absurd h (by decide)⟩
set_option maxRecDepth 100000 in
theorem mwR_11 : mwR mr_11 := ⟨mb_4 (List.mem_of_getElem? (i := 5) rfl) rfl, mb_1 (List.mem_of_getElem? (i := 15) rfl) rfl, mb_4 (List.mem_of_getElem? (i := 4) rfl) rfl, fun h => absurd h (by decide)⟩
set_option maxRecDepth 100000 in
theorem mwR_12 : mwR mr_12 := ⟨mb_4 (List.mem_of_getElem? (i := 23) rfl) rfl, mb_1 (List.mem_of_getElem? (i := 15) rfl) rfl, mb_4 (List.mem_of_getElem? (i := 22) rfl) rfl, fun h => absurd h (by decide)⟩
set_option maxRecDepth 100000 in
theorem mwR_13 : mwR mr_13 := ⟨mb_4 (List.mem_of_getElem? (i := 17) rfl) rfl, mb_1 (List.mem_of_getElem? (i := 15) rfl) rfl, mb_4 (List.mem_of_getElem? (i := 16) rfl) rfl, fun h => absurd h (by decide)⟩
set_option maxRecDepth 100000 in
theorem mwR_14 : mwR mr_14 := ⟨mb_4 (List.mem_of_getElem? (i := 35) rfl) rfl, mb_1 (List.mem_of_getElem? (i := 15) rfl) rfl, mb_4 (List.mem_of_getElem? (i := 34) rfl) rfl, fun h => absurd h (by decide)⟩
set_option maxRecDepth 100000 in
theorem mwR_15 : mwR mr_15 := ⟨mb_4 (List.mem_of_getElem? (i := 38) rfl) rfl, mb_1 (List.mem_of_getElem? (i := 15) rfl) rfl, mb_4 (List.mem_of_getElem? (i := 37) rfl) rfl, fun h => absurd h (by decide)⟩
set_option maxRecDepth 100000 in
theorem mwR_16 : mwR mr_16 := ⟨mb_4 (List.mem_of_getElem? (i := 42) rfl) rfl, mb_1 (List.mem_of_getElem? (i := 15) rfl) rfl, mb_4 (List.mem_of_getElem? (i := 41) rfl) rfl, fun h => absurd h (by decide)⟩
set_option maxRecDepth 100000 in
theorem mwR_17 : mwR mr_17 := ⟨mb_1 (List.mem_of_getElem? (i := 232) rfl) rfl, mb_1 (List.mem_of_getElem? (i := 10) rfl) rfl, mb_1 (List.mem_of_getElem? (i := 231) rfl) rfl, fun h => absurd h (by decide)⟩
set_option maxRecDepth 100000 in
theorem mwR_18 : mwR mr_18 := ⟨mb_4 (List.mem_of_getElem? (i := 2) rfl) rfl, mb_1 (List.mem_of_getElem? (i := 10) rfl) rfl, mb_4 (List.mem_of_getElem? (i := 0) rfl) rfl, fun _ => mb_4 (List.mem_of_getElem? (i := 1) rfl) rfl⟩
set_option maxRecDepth 100000 in
theorem mwR_19 : mwR mr_19 := ⟨mb_4 (List.mem_of_getElem? (i := 14) rfl) rfl, mb_1 (List.mem_of_getElem? (i := 10) rfl) rfl, mb_4 (List.mem_of_getElem? (i := 12) rfl) rfl, fun _ => mb_4 (List.mem_of_getElem? (i := 13) rfl) rfl⟩
set_option maxRecDepth 100000 in
theorem mwR_20 : mwR mr_20 := ⟨mb_4 (List.mem_of_getElem? (i := 31) rfl) rfl, mb_1 (List.mem_of_getElem? (i := 10) rfl) rfl, mb_4 (List.mem_of_getElem? (i := 29) rfl) rfl, fun _ => mb_4 (List.mem_of_getElem? (i := 30) rfl) rfl⟩
set_option maxRecDepth 100000 in
theorem mwR_21 : mwR mr_21 := ⟨mb_4 (List.mem_of_getElem? (i := 60) rfl) rfl, mb_1 (List.mem_of_getElem? (i := 10) rfl) rfl, mb_4 (List.mem_of_getElem? (i := 58) rfl) rfl, fun _ => mb_4 (List.mem_of_getElem? (i := 59) rfl) rfl⟩
set_option maxRecDepth 100000 in
theorem mwR_22 : mwR mr_22 := ⟨mb_2 (List.mem_of_getElem? (i := 75) rfl) rfl, mb_1 (List.mem_of_getElem? (i := 12) rfl) rfl, mb_2 (List.mem_of_getElem? (i := 74) rfl) rfl, fun h => absurd h (by decide)⟩
set_option maxRecDepth 100000 in
theorem mwR_23 : mwR mr_23 := ⟨mb_4 (List.mem_of_getElem? (i := 216) rfl) rfl, mb_1 (List.mem_of_getElem? (i := 12) rfl) rfl, mb_4 (List.mem_of_getElem? (i := 214) rfl) rfl, fun _ => mb_4 (List.mem_of_getElem? (i := 215) rfl) rfl⟩
set_option maxRecDepth 100000 in
theorem mwR_24 : mwR mr_24 := ⟨mb_5 (List.mem_of_getElem? (i := 43) rfl) rfl, mb_1 (List.mem_of_getElem? (i := 12) rfl) rfl, mb_5 (List.mem_of_getElem? (i := 41) rfl) rfl, fun _ => mb_5 (List.mem_of_getElem? (i := 42) rfl) rfl⟩
set_option maxRecDepth 100000 in
theorem mwR_25 : mwR mr_25 := ⟨mb_5 (List.mem_of_getElem? (i := 5) rfl) rfl, mb_1 (List.mem_of_getElem? (i := 12) rfl) rfl, mb_5 (List.mem_of_getElem? (i := 4) rfl) rfl, fun _ => mb_0 (List.mem_of_getElem? (i := 44) rfl) rfl⟩
set_option maxRecDepth 100000 in
theorem mwR_26 : mwR mr_26 := ⟨mb_5 (List.mem_of_getElem? (i := 1) rfl) rfl, mb_1 (List.mem_of_getElem? (i := 12) rfl) rfl, mb_5 (List.mem_of_getElem? (i := 0) rfl) rfl, fun _ => mb_0 (List.mem_of_getElem? (i := 43) rfl) rfl⟩
set_option maxRecDepth 100000 in
theorem mwR_27 : mwR mr_27 := ⟨mb_5 (List.mem_of_getElem? (i := 11) rfl) rfl, mb_1 (List.mem_of_getElem? (i := 12) rfl) rfl, mb_5 (List.mem_of_getElem? (i := 9) rfl) rfl, fun _ => mb_5 (List.mem_of_getElem? (i := 10) rfl) rfl⟩
set_option maxRecDepth 100000 in
theorem mwR_28 : mwR mr_28 := ⟨mb_5 (List.mem_of_getElem? (i := 35) rfl) rfl, mb_1 (List.mem_of_getElem? (i := 12) rfl) rfl, mb_5 (List.mem_of_getElem? (i := 33) rfl) rfl, fun _ => mb_5 (List.mem_of_getElem? (i := 34) rfl) rfl⟩
set_option maxRecDepth 100000 in
theorem mwR_29 : mwR mr_29 := ⟨mb_5 (List.mem_of_getElem? (i := 15) rfl) rfl, mb_1 (List.mem_of_getElem? (i := 12) rfl) rfl, mb_5 (List.mem_of_getElem? (i := 14) rfl) rfl, fun _ => mb_0 (List.mem_of_getElem? (i := 45) rfl) rfl⟩
set_option maxRecDepth 100000 in
theorem mwR_30 : mwR mr_30 := ⟨mb_4 (List.mem_of_getElem? (i := 230) rfl) rfl, mb_1 (List.mem_of_getElem? (i := 12) rfl) rfl, mb_4 (List.mem_of_getElem? (i := 228) rfl) rfl, fun _ => mb_4 (List.mem_of_getElem? (i := 229) rfl) rfl⟩
set_option maxRecDepth 100000 in
theorem mwR_31 : mwR mr_31 := ⟨mb_5 (List.mem_of_getElem? (i := 30) rfl) rfl, mb_1 (List.mem_of_getElem? (i := 12) rfl) rfl, mb_5 (List.mem_of_getElem? (i := 28) rfl) rfl, fun _ => mb_5 (List.mem_of_getElem? (i := 29) rfl) rfl⟩
set_option maxRecDepth 100000 in
theorem mwR_32 : mwR mr_32 := ⟨mb_4 (List.mem_of_getElem? (i := 236) rfl) rfl, mb_1 (List.mem_of_getElem? (i := 12) rfl) rfl, mb_4 (List.mem_of_getElem? (i := 235) rfl) rfl, fun _ => mb_0 (List.mem_of_getElem? (i := 42) rfl) rfl⟩
set_option maxRecDepth 100000 in
theorem mwR_33 : mwR mr_33 := ⟨mb_1 (List.mem_of_getElem? (i := 93) rfl) rfl, mb_1 (List.mem_of_getElem? (i := 5) rfl) rfl, mb_1 (List.mem_of_getElem? (i := 92) rfl) rfl, fun h => absurd h (by decide)⟩
set_option maxRecDepth 100000 in
theorem mwR_34 : mwR mr_34 := ⟨mb_3 (List.mem_of_getElem? (i := 38) rfl) rfl, mb_1 (List.mem_of_getElem? (i := 5) rfl) rfl, mb_3 (List.mem_of_getElem? (i := 36) rfl) rfl, fun _ => mb_3 (List.mem_of_getElem? (i := 37) rfl) rfl⟩
set_option maxRecDepth 100000 in
theorem mwR_35 : mwR mr_35 := ⟨mb_3 (List.mem_of_getElem? (i := 68) rfl) rfl, mb_1 (List.mem_of_getElem? (i := 5) rfl) rfl, mb_3 (List.mem_of_getElem? (i := 67) rfl) rfl, fun h => absurd h (by decide)⟩
set_option maxRecDepth 100000 in
theorem mwR_36 : mwR mr_36 := ⟨mb_3 (List.mem_of_getElem? (i := 42) rfl) rfl, mb_1 (List.mem_of_getElem? (i := 5) rfl) rfl, mb_3 (List.mem_of_getElem? (i := 41) rfl) rfl, fun _ => mb_0 (List.mem_of_getElem? (i := 5) rfl) rfl⟩
set_option maxRecDepth 100000 in
theorem mwR_37 : mwR mr_37 := ⟨mb_3 (List.mem_of_getElem? (i := 65) rfl) rfl, mb_1 (List.mem_of_getElem? (i := 5) rfl) rfl, mb_3 (List.mem_of_getElem? (i := 64) rfl) rfl, fun _ => mb_0 (List.mem_of_getElem? (i := 10) rfl) rfl⟩
set_option maxRecDepth 100000 in
theorem mwR_38 : mwR mr_38 := ⟨mb_3 (List.mem_of_getElem? (i := 50) rfl) rfl, mb_1 (List.mem_of_getElem? (i := 5) rfl) rfl, mb_3 (List.mem_of_getElem? (i := 49) rfl) rfl, fun _ => mb_0 (List.mem_of_getElem? (i := 7) rfl) rfl⟩
set_option maxRecDepth 100000 in
theorem mwR_39 : mwR mr_39 := ⟨mb_3 (List.mem_of_getElem? (i := 61) rfl) rfl, mb_1 (List.mem_of_getElem? (i := 5) rfl) rfl, mb_3 (List.mem_of_getElem? (i := 60) rfl) rfl, fun _ => mb_0 (List.mem_of_getElem? (i := 9) rfl) rfl⟩
set_option maxRecDepth 100000 in
theorem mwR_40 : mwR mr_40 := ⟨mb_3 (List.mem_of_getElem? (i := 54) rfl) rfl, mb_1 (List.mem_of_getElem? (i := 5) rfl) rfl, mb_3 (List.mem_of_getElem? (i := 53) rfl) rfl, fun _ => mb_0 (List.mem_of_getElem? (i := 8) rfl) rfl⟩
set_option maxRecDepth 100000 in
theorem mwR_41 : mwR mr_41 := ⟨mb_3 (List.mem_of_getElem? (i := 46) rfl) rfl, mb_1 (List.mem_of_getElem? (i := 5) rfl) rfl, mb_3 (List.mem_of_getElem? (i := 45) rfl) rfl, fun _ => mb_0 (List.mem_of_getElem? (i := 6) rfl) rfl⟩
set_option maxRecDepth 100000 in
theorem mwR_42 : mwR mr_42 := ⟨mb_3 (List.mem_of_getElem? (i := 72) rfl) rfl, mb_1 (List.mem_of_getElem? (i := 5) rfl) rfl, mb_3 (List.mem_of_getElem? (i := 71) rfl) rfl, fun _ => mb_0 (List.mem_of_getElem? (i := 11) rfl) rfl⟩
set_option maxRecDepth 100000 in
theorem mwR_43 : mwR mr_43 := ⟨mb_3 (List.mem_of_getElem? (i := 81) rfl) rfl, mb_1 (List.mem_of_getElem? (i := 5) rfl) rfl, mb_3 (List.mem_of_getElem? (i := 80) rfl) rfl, fun _ => mb_0 (List.mem_of_getElem? (i := 12) rfl) rfl⟩
set_option maxRecDepth 100000 in
theorem mwR_44 : mwR mr_44 := ⟨mb_3 (List.mem_of_getElem? (i := 93) rfl) rfl, mb_1 (List.mem_of_getElem? (i := 5) rfl) rfl, mb_3 (List.mem_of_getElem? (i := 92) rfl) rfl, fun _ => mb_0 (List.mem_of_getElem? (i := 13) rfl) rfl⟩
set_option maxRecDepth 100000 in
theorem mwR_45 : mwR mr_45 := ⟨mb_3 (List.mem_of_getElem? (i := 101) rfl) rfl, mb_1 (List.mem_of_getElem? (i := 5) rfl) rfl, mb_3 (List.mem_of_getElem? (i := 99) rfl) rfl, fun _ => mb_3 (List.mem_of_getElem? (i := 100) rfl) rfl⟩
set_option maxRecDepth 100000 in
theorem mwR_46 : mwR mr_46 := ⟨mb_3 (List.mem_of_getElem? (i := 136) rfl) rfl, mb_1 (List.mem_of_getElem? (i := 5) rfl) rfl, mb_3 (List.mem_of_getElem? (i := 135) rfl) rfl, fun _ => mb_0 (List.mem_of_getElem? (i := 18) rfl) rfl⟩
set_option maxRecDepth 100000 in
theorem mwR_47 : mwR mr_47 := ⟨mb_3 (List.mem_of_getElem? (i := 140) rfl) rfl, mb_1 (List.mem_of_getElem? (i := 5) rfl) rfl, mb_3 (List.mem_of_getElem? (i := 139) rfl) rfl, fun _ => mb_0 (List.mem_of_getElem? (i := 19) rfl) rfl⟩
set_option maxRecDepth 100000 in
theorem mwR_48 : mwR mr_48 := ⟨mb_5 (List.mem_of_getElem? (i := 110) rfl) rfl, mb_1 (List.mem_of_getElem? (i := 5) rfl) rfl, mb_5 (List.mem_of_getElem? (i := 108) rfl) rfl, fun _ => mb_5 (List.mem_of_getElem? (i := 109) rfl) rfl⟩
set_option maxRecDepth 100000 in
theorem mwR_49 : mwR mr_49 := ⟨mb_3 (List.mem_of_getElem? (i := 176) rfl) rfl, mb_1 (List.mem_of_getElem? (i := 5) rfl) rfl, mb_3 (List.mem_of_getElem? (i := 175) rfl) rfl, fun _ => mb_0 (List.mem_of_getElem? (i := 21) rfl) rfl⟩
set_option maxRecDepth 100000 in
theorem mwR_50 : mwR mr_50 := ⟨mb_3 (List.mem_of_getElem? (i := 172) rfl) rfl, mb_1 (List.mem_of_getElem? (i := 5) rfl) rfl, mb_3 (List.mem_of_getElem? (i := 170) rfl) rfl, fun _ => mb_3 (List.mem_of_getElem? (i := 171) rfl) rfl⟩
set_option maxRecDepth 100000 in
theorem mwR_51 : mwR mr_51 := ⟨mb_3 (List.mem_of_getElem? (i := 180) rfl) rfl, mb_1 (List.mem_of_getElem? (i := 5) rfl) rfl, mb_3 (List.mem_of_getElem? (i := 178) rfl) rfl, fun _ => mb_3 (List.mem_of_getElem? (i := 179) rfl) rfl⟩
set_option maxRecDepth 100000 in
theorem mwR_52 : mwR mr_52 := ⟨mb_4 (List.mem_of_getElem? (i := 115) rfl) rfl, mb_1 (List.mem_of_getElem? (i := 5) rfl) rfl, mb_4 (List.mem_of_getElem? (i := 113) rfl) rfl, fun _ => mb_4 (List.mem_of_getElem? (i := 114) rfl) rfl⟩
set_option maxRecDepth 100000 in
theorem mwR_53 : mwR mr_53 := ⟨mb_5 (List.mem_of_getElem? (i := 67) rfl) rfl, mb_1 (List.mem_of_getElem? (i := 5) rfl) rfl, mb_5 (List.mem_of_getElem? (i := 65) rfl) rfl, fun _ => mb_5 (List.mem_of_getElem? (i := 66) rfl) rfl⟩
set_option maxRecDepth 100000 in
theorem mwR_54 : mwR mr_54 := ⟨mb_5 (List.mem_of_getElem? (i := 55) rfl) rfl, mb_1 (List.mem_of_getElem? (i := 5) rfl) rfl, mb_5 (List.mem_of_getElem? (i := 53) rfl) rfl, fun _ => mb_5 (List.mem_of_getElem? (i := 54) rfl) rfl⟩
set_option maxRecDepth 100000 in
theorem mwR_55 : mwR mr_55 := ⟨mb_3 (List.mem_of_getElem? (i := 238) rfl) rfl, mb_1 (List.mem_of_getElem? (i := 5) rfl) rfl, mb_3 (List.mem_of_getElem? (i := 236) rfl) rfl, fun _ => mb_3 (List.mem_of_getElem? (i := 237) rfl) rfl⟩
set_option maxRecDepth 100000 in
theorem mwR_56 : mwR mr_56 := ⟨mb_4 (List.mem_of_getElem? (i := 47) rfl) rfl, mb_1 (List.mem_of_getElem? (i := 5) rfl) rfl, mb_4 (List.mem_of_getElem? (i := 46) rfl) rfl, fun _ => mb_0 (List.mem_of_getElem? (i := 24) rfl) rfl⟩
set_option maxRecDepth 100000 in
theorem mwR_57 : mwR mr_57 := ⟨mb_4 (List.mem_of_getElem? (i := 51) rfl) rfl, mb_1 (List.mem_of_getElem? (i := 5) rfl) rfl, mb_4 (List.mem_of_getElem? (i := 50) rfl) rfl, fun _ => mb_0 (List.mem_of_getElem? (i := 25) rfl) rfl⟩
set_option maxRecDepth 100000 in
theorem mwR_58 : mwR mr_58 := ⟨mb_1 (List.mem_of_getElem? (i := 226) rfl) rfl, mb_1 (List.mem_of_getElem? (i := 9) rfl) rfl, mb_1 (List.mem_of_getElem? (i := 225) rfl) rfl, fun h => absurd h (by decide)⟩
set_option maxRecDepth 100000 in
theorem mwR_59 : mwR mr_59 := ⟨mb_3 (List.mem_of_getElem? (i := 230) rfl) rfl, mb_1 (List.mem_of_getElem? (i := 9) rfl) rfl, mb_3 (List.mem_of_getElem? (i := 228) rfl) rfl, fun _ => mb_3 (List.mem_of_getElem? (i := 229) rfl) rfl⟩
set_option maxRecDepth 100000 in
theorem mwR_60 : mwR mr_60 := ⟨mb_3 (List.mem_of_getElem? (i := 234) rfl) rfl, mb_1 (List.mem_of_getElem? (i := 9) rfl) rfl, mb_3 (List.mem_of_getElem? (i := 232) rfl) rfl, fun _ => mb_3 (List.mem_of_getElem? (i := 233) rfl) rfl⟩
set_option maxRecDepth 100000 in
theorem mwR_61 : mwR mr_61 := ⟨mb_4 (List.mem_of_getElem? (i := 72) rfl) rfl, mb_1 (List.mem_of_getElem? (i := 9) rfl) rfl, mb_4 (List.mem_of_getElem? (i := 71) rfl) rfl, fun _ => mb_0 (List.mem_of_getElem? (i := 26) rfl) rfl⟩
set_option maxRecDepth 100000 in
theorem mwR_62 : mwR mr_62 := ⟨mb_1 (List.mem_of_getElem? (i := 99) rfl) rfl, mb_1 (List.mem_of_getElem? (i := 6) rfl) rfl, mb_1 (List.mem_of_getElem? (i := 98) rfl) rfl, fun h => absurd h (by decide)⟩
set_option maxRecDepth 100000 in
theorem mwR_63 : mwR mr_63 := ⟨mb_3 (List.mem_of_getElem? (i := 127) rfl) rfl, mb_1 (List.mem_of_getElem? (i := 6) rfl) rfl, mb_3 (List.mem_of_getElem? (i := 126) rfl) rfl, fun h => absurd h (by decide)⟩
set_option maxRecDepth 100000 in
theorem mwR_64 : mwR mr_64 := ⟨mb_3 (List.mem_of_getElem? (i := 105) rfl) rfl, mb_1 (List.mem_of_getElem? (i := 6) rfl) rfl, mb_3 (List.mem_of_getElem? (i := 103) rfl) rfl, fun _ => mb_3 (List.mem_of_getElem? (i := 104) rfl) rfl⟩
set_option maxRecDepth 100000 in
theorem mwR_65 : mwR mr_65 := ⟨mb_3 (List.mem_of_getElem? (i := 115) rfl) rfl, mb_1 (List.mem_of_getElem? (i := 6) rfl) rfl, mb_3 (List.mem_of_getElem? (i := 114) rfl) rfl, fun h => absurd h (by decide)⟩
set_option maxRecDepth 100000 in
theorem mwR_66 : mwR mr_66 := ⟨mb_3 (List.mem_of_getElem? (i := 119) rfl) rfl, mb_1 (List.mem_of_getElem? (i := 6) rfl) rfl, mb_3 (List.mem_of_getElem? (i := 118) rfl) rfl, fun _ => mb_0 (List.mem_of_getElem? (i := 15) rfl) rfl⟩
set_option maxRecDepth 100000 in
theorem mwR_67 : mwR mr_67 := ⟨mb_3 (List.mem_of_getElem? (i := 109) rfl) rfl, mb_1 (List.mem_of_getElem? (i := 6) rfl) rfl, mb_3 (List.mem_of_getElem? (i := 108) rfl) rfl, fun _ => mb_0 (List.mem_of_getElem? (i := 14) rfl) rfl⟩
set_option maxRecDepth 100000 in
theorem mwR_68 : mwR mr_68 := ⟨mb_3 (List.mem_of_getElem? (i := 124) rfl) rfl, mb_1 (List.mem_of_getElem? (i := 6) rfl) rfl, mb_3 (List.mem_of_getElem? (i := 123) rfl) rfl, fun _ => mb_0 (List.mem_of_getElem? (i := 16) rfl) rfl⟩
set_option maxRecDepth 100000 in
theorem mwR_69 : mwR mr_69 := ⟨mb_3 (List.mem_of_getElem? (i := 131) rfl) rfl, mb_1 (List.mem_of_getElem? (i := 6) rfl) rfl, mb_3 (List.mem_of_getElem? (i := 130) rfl) rfl, fun _ => mb_0 (List.mem_of_getElem? (i := 17) rfl) rfl⟩
set_option maxRecDepth 100000 in
theorem mwR_70 : mwR mr_70 := ⟨mb_1 (List.mem_of_getElem? (i := 31) rfl) rfl, mb_1 (List.mem_of_getElem? (i := 2) rfl) rfl, mb_1 (List.mem_of_getElem? (i := 30) rfl) rfl, fun h => absurd h (by decide)⟩
set_option maxRecDepth 100000 in
theorem mwR_71 : mwR mr_71 := ⟨mb_3 (List.mem_of_getElem? (i := 204) rfl) rfl, mb_1 (List.mem_of_getElem? (i := 2) rfl) rfl, mb_3 (List.mem_of_getElem? (i := 202) rfl) rfl, fun _ => mb_3 (List.mem_of_getElem? (i := 203) rfl) rfl⟩
set_option maxRecDepth 100000 in
theorem mwR_72 : mwR mr_72 := ⟨mb_3 (List.mem_of_getElem? (i := 188) rfl) rfl, mb_1 (List.mem_of_getElem? (i := 2) rfl) rfl, mb_3 (List.mem_of_getElem? (i := 186) rfl) rfl, fun _ => mb_3 (List.mem_of_getElem? (i := 187) rfl) rfl⟩
set_option maxRecDepth 100000 in
theorem mwR_73 : mwR mr_73 := ⟨mb_3 (List.mem_of_getElem? (i := 212) rfl) rfl, mb_1 (List.mem_of_getElem? (i := 2) rfl) rfl, mb_3 (List.mem_of_getElem? (i := 210) rfl) rfl, fun _ => mb_3 (List.mem_of_getElem? (i := 211) rfl) rfl⟩
set_option maxRecDepth 100000 in
theorem mwR_74 : mwR mr_74 := ⟨mb_4 (List.mem_of_getElem? (i := 124) rfl) rfl, mb_1 (List.mem_of_getElem? (i := 2) rfl) rfl, mb_4 (List.mem_of_getElem? (i := 122) rfl) rfl, fun _ => mb_4 (List.mem_of_getElem? (i := 123) rfl) rfl⟩
set_option maxRecDepth 100000 in
theorem mwR_75 : mwR mr_75 := ⟨mb_4 (List.mem_of_getElem? (i := 64) rfl) rfl, mb_1 (List.mem_of_getElem? (i := 2) rfl) rfl, mb_4 (List.mem_of_getElem? (i := 62) rfl) rfl, fun _ => mb_4 (List.mem_of_getElem? (i := 63) rfl) rfl⟩
set_option maxRecDepth 100000 in
theorem mwR_76 : mwR mr_76 := ⟨mb_5 (List.mem_of_getElem? (i := 138) rfl) rfl, mb_1 (List.mem_of_getElem? (i := 2) rfl) rfl, mb_5 (List.mem_of_getElem? (i := 136) rfl) rfl, fun _ => mb_5 (List.mem_of_getElem? (i := 137) rfl) rfl⟩
set_option maxRecDepth 100000 in
theorem mwR_77 : mwR mr_77 := ⟨mb_4 (List.mem_of_getElem? (i := 54) rfl) rfl, mb_1 (List.mem_of_getElem? (i := 2) rfl) rfl, mb_4 (List.mem_of_getElem? (i := 53) rfl) rfl, fun h => absurd h (by decide)⟩
set_option maxRecDepth 100000 in
theorem mwR_78 : mwR mr_78 := ⟨mb_4 (List.mem_of_getElem? (i := 98) rfl) rfl, mb_1 (List.mem_of_getElem? (i := 2) rfl) rfl, mb_4 (List.mem_of_getElem? (i := 96) rfl) rfl, fun _ => mb_4 (List.mem_of_getElem? (i := 97) rfl) rfl⟩
set_option maxRecDepth 100000 in
theorem mwR_79 : mwR mr_79 := ⟨mb_5 (List.mem_of_getElem? (i := 81) rfl) rfl, mb_1 (List.mem_of_getElem? (i := 2) rfl) rfl, mb_5 (List.mem_of_getElem? (i := 79) rfl) rfl, fun _ => mb_5 (List.mem_of_getElem? (i := 80) rfl) rfl⟩
set_option maxRecDepth 100000 in
theorem mwR_80 : mwR mr_80 := ⟨mb_1 (List.mem_of_getElem? (i := 60) rfl) rfl, mb_1 (List.mem_of_getElem? (i := 4) rfl) rfl, mb_1 (List.mem_of_getElem? (i := 59) rfl) rfl, fun h => absurd h (by decide)⟩
set_option maxRecDepth 100000 in
theorem mwR_81 : mwR mr_81 := ⟨mb_4 (List.mem_of_getElem? (i := 141) rfl) rfl, mb_1 (List.mem_of_getElem? (i := 4) rfl) rfl, mb_4 (List.mem_of_getElem? (i := 140) rfl) rfl, fun _ => mb_0 (List.mem_of_getElem? (i := 32) rfl) rfl⟩
set_option maxRecDepth 100000 in
theorem mwR_82 : mwR mr_82 := ⟨mb_4 (List.mem_of_getElem? (i := 178) rfl) rfl, mb_1 (List.mem_of_getElem? (i := 4) rfl) rfl, mb_4 (List.mem_of_getElem? (i := 176) rfl) rfl, fun _ => mb_4 (List.mem_of_getElem? (i := 177) rfl) rfl⟩
set_option maxRecDepth 100000 in
theorem mwR_83 : mwR mr_83 := ⟨mb_4 (List.mem_of_getElem? (i := 182) rfl) rfl, mb_1 (List.mem_of_getElem? (i := 4) rfl) rfl, mb_4 (List.mem_of_getElem? (i := 181) rfl) rfl, fun _ => mb_0 (List.mem_of_getElem? (i := 35) rfl) rfl⟩
set_option maxRecDepth 100000 in
theorem mwR_84 : mwR mr_84 := ⟨mb_4 (List.mem_of_getElem? (i := 191) rfl) rfl, mb_1 (List.mem_of_getElem? (i := 4) rfl) rfl, mb_4 (List.mem_of_getElem? (i := 190) rfl) rfl, fun _ => mb_0 (List.mem_of_getElem? (i := 37) rfl) rfl⟩
set_option maxRecDepth 100000 in
theorem mwR_85 : mwR mr_85 := ⟨mb_4 (List.mem_of_getElem? (i := 186) rfl) rfl, mb_1 (List.mem_of_getElem? (i := 4) rfl) rfl, mb_4 (List.mem_of_getElem? (i := 185) rfl) rfl, fun _ => mb_0 (List.mem_of_getElem? (i := 36) rfl) rfl⟩
set_option maxRecDepth 100000 in
theorem mwR_86 : mwR mr_86 := ⟨mb_4 (List.mem_of_getElem? (i := 196) rfl) rfl, mb_1 (List.mem_of_getElem? (i := 4) rfl) rfl, mb_4 (List.mem_of_getElem? (i := 195) rfl) rfl, fun _ => mb_0 (List.mem_of_getElem? (i := 38) rfl) rfl⟩
set_option maxRecDepth 100000 in
theorem mwR_87 : mwR mr_87 := ⟨mb_4 (List.mem_of_getElem? (i := 201) rfl) rfl, mb_1 (List.mem_of_getElem? (i := 4) rfl) rfl, mb_4 (List.mem_of_getElem? (i := 200) rfl) rfl, fun _ => mb_0 (List.mem_of_getElem? (i := 39) rfl) rfl⟩
set_option maxRecDepth 100000 in
theorem mwR_88 : mwR mr_88 := ⟨mb_4 (List.mem_of_getElem? (i := 205) rfl) rfl, mb_1 (List.mem_of_getElem? (i := 4) rfl) rfl, mb_4 (List.mem_of_getElem? (i := 204) rfl) rfl, fun _ => mb_0 (List.mem_of_getElem? (i := 40) rfl) rfl⟩
set_option maxRecDepth 100000 in
theorem mwR_89 : mwR mr_89 := ⟨mb_4 (List.mem_of_getElem? (i := 137) rfl) rfl, mb_1 (List.mem_of_getElem? (i := 4) rfl) rfl, mb_4 (List.mem_of_getElem? (i := 135) rfl) rfl, fun _ => mb_4 (List.mem_of_getElem? (i := 136) rfl) rfl⟩
set_option maxRecDepth 100000 in
theorem mwR_90 : mwR mr_90 := ⟨mb_1 (List.mem_of_getElem? (i := 155) rfl) rfl, mb_1 (List.mem_of_getElem? (i := 8) rfl) rfl, mb_1 (List.mem_of_getElem? (i := 154) rfl) rfl, fun h => absurd h (by decide)⟩
set_option maxRecDepth 100000 in
theorem mwR_91 : mwR mr_91 := ⟨mb_3 (List.mem_of_getElem? (i := 17) rfl) rfl, mb_1 (List.mem_of_getElem? (i := 8) rfl) rfl, mb_3 (List.mem_of_getElem? (i := 15) rfl) rfl, fun _ => mb_3 (List.mem_of_getElem? (i := 16) rfl) rfl⟩
set_option maxRecDepth 100000 in
theorem mwR_92 : mwR mr_92 := ⟨mb_2 (List.mem_of_getElem? (i := 218) rfl) rfl, mb_1 (List.mem_of_getElem? (i := 8) rfl) rfl, mb_2 (List.mem_of_getElem? (i := 216) rfl) rfl, fun _ => mb_2 (List.mem_of_getElem? (i := 217) rfl) rfl⟩
set_option maxRecDepth 100000 in
theorem mwR_93 : mwR mr_93 := ⟨mb_3 (List.mem_of_getElem? (i := 30) rfl) rfl, mb_1 (List.mem_of_getElem? (i := 8) rfl) rfl, mb_3 (List.mem_of_getElem? (i := 28) rfl) rfl, fun _ => mb_3 (List.mem_of_getElem? (i := 29) rfl) rfl⟩
set_option maxRecDepth 100000 in
theorem mwR_94 : mwR mr_94 := ⟨mb_2 (List.mem_of_getElem? (i := 214) rfl) rfl, mb_1 (List.mem_of_getElem? (i := 8) rfl) rfl, mb_2 (List.mem_of_getElem? (i := 212) rfl) rfl, fun _ => mb_2 (List.mem_of_getElem? (i := 213) rfl) rfl⟩
set_option maxRecDepth 100000 in
theorem mwR_95 : mwR mr_95 := ⟨mb_3 (List.mem_of_getElem? (i := 85) rfl) rfl, mb_1 (List.mem_of_getElem? (i := 8) rfl) rfl, mb_3 (List.mem_of_getElem? (i := 83) rfl) rfl, fun _ => mb_3 (List.mem_of_getElem? (i := 84) rfl) rfl⟩
set_option maxRecDepth 100000 in
theorem mwR_96 : mwR mr_96 := ⟨mb_3 (List.mem_of_getElem? (i := 89) rfl) rfl, mb_1 (List.mem_of_getElem? (i := 8) rfl) rfl, mb_3 (List.mem_of_getElem? (i := 87) rfl) rfl, fun _ => mb_3 (List.mem_of_getElem? (i := 88) rfl) rfl⟩
set_option maxRecDepth 100000 in
theorem mwR_97 : mwR mr_97 := ⟨mb_3 (List.mem_of_getElem? (i := 97) rfl) rfl, mb_1 (List.mem_of_getElem? (i := 8) rfl) rfl, mb_3 (List.mem_of_getElem? (i := 95) rfl) rfl, fun _ => mb_3 (List.mem_of_getElem? (i := 96) rfl) rfl⟩
set_option maxRecDepth 100000 in
theorem mwR_98 : mwR mr_98 := ⟨mb_5 (List.mem_of_getElem? (i := 124) rfl) rfl, mb_1 (List.mem_of_getElem? (i := 8) rfl) rfl, mb_5 (List.mem_of_getElem? (i := 122) rfl) rfl, fun _ => mb_5 (List.mem_of_getElem? (i := 123) rfl) rfl⟩
set_option maxRecDepth 100000 in
theorem mwR_99 : mwR mr_99 := ⟨mb_5 (List.mem_of_getElem? (i := 151) rfl) rfl, mb_1 (List.mem_of_getElem? (i := 8) rfl) rfl, mb_5 (List.mem_of_getElem? (i := 149) rfl) rfl, fun _ => mb_5 (List.mem_of_getElem? (i := 150) rfl) rfl⟩
set_option maxRecDepth 100000 in
theorem mwR_100 : mwR mr_100 := ⟨mb_2 (List.mem_of_getElem? (i := 46) rfl) rfl, mb_1 (List.mem_of_getElem? (i := 11) rfl) rfl, mb_2 (List.mem_of_getElem? (i := 45) rfl) rfl, fun h => absurd h (by decide)⟩
set_option maxRecDepth 100000 in
theorem mwR_101 : mwR mr_101 := ⟨mb_4 (List.mem_of_getElem? (i := 89) rfl) rfl, mb_1 (List.mem_of_getElem? (i := 11) rfl) rfl, mb_4 (List.mem_of_getElem? (i := 87) rfl) rfl, fun _ => mb_4 (List.mem_of_getElem? (i := 88) rfl) rfl⟩
set_option maxRecDepth 100000 in
theorem mwR_102 : mwR mr_102 := ⟨mb_4 (List.mem_of_getElem? (i := 106) rfl) rfl, mb_1 (List.mem_of_getElem? (i := 11) rfl) rfl, mb_4 (List.mem_of_getElem? (i := 104) rfl) rfl, fun _ => mb_4 (List.mem_of_getElem? (i := 105) rfl) rfl⟩
set_option maxRecDepth 100000 in
theorem mwR_103 : mwR mr_103 := ⟨mb_4 (List.mem_of_getElem? (i := 149) rfl) rfl, mb_1 (List.mem_of_getElem? (i := 11) rfl) rfl, mb_4 (List.mem_of_getElem? (i := 147) rfl) rfl, fun _ => mb_4 (List.mem_of_getElem? (i := 148) rfl) rfl⟩
set_option maxRecDepth 100000 in
theorem mwR_104 : mwR mr_104 := ⟨mb_4 (List.mem_of_getElem? (i := 110) rfl) rfl, mb_1 (List.mem_of_getElem? (i := 11) rfl) rfl, mb_4 (List.mem_of_getElem? (i := 109) rfl) rfl, fun _ => mb_0 (List.mem_of_getElem? (i := 29) rfl) rfl⟩
set_option maxRecDepth 100000 in
theorem mwR_105 : mwR mr_105 := ⟨mb_4 (List.mem_of_getElem? (i := 119) rfl) rfl, mb_1 (List.mem_of_getElem? (i := 11) rfl) rfl, mb_4 (List.mem_of_getElem? (i := 118) rfl) rfl, fun _ => mb_0 (List.mem_of_getElem? (i := 30) rfl) rfl⟩
set_option maxRecDepth 100000 in
theorem mwR_106 : mwR mr_106 := ⟨mb_4 (List.mem_of_getElem? (i := 133) rfl) rfl, mb_1 (List.mem_of_getElem? (i := 11) rfl) rfl, mb_4 (List.mem_of_getElem? (i := 132) rfl) rfl, fun _ => mb_0 (List.mem_of_getElem? (i := 31) rfl) rfl⟩
set_option maxRecDepth 100000 in
theorem mwR_107 : mwR mr_107 := ⟨mb_1 (List.mem_of_getElem? (i := 21) rfl) rfl, mb_1 (List.mem_of_getElem? (i := 1) rfl) rfl, mb_1 (List.mem_of_getElem? (i := 20) rfl) rfl, fun h => absurd h (by decide)⟩
set_option maxRecDepth 100000 in
theorem mwR_108 : mwR mr_108 := ⟨mb_2 (List.mem_of_getElem? (i := 182) rfl) rfl, mb_1 (List.mem_of_getElem? (i := 1) rfl) rfl, mb_2 (List.mem_of_getElem? (i := 180) rfl) rfl, fun _ => mb_2 (List.mem_of_getElem? (i := 181) rfl) rfl⟩
set_option maxRecDepth 100000 in
theorem mwR_109 : mwR mr_109 := ⟨mb_2 (List.mem_of_getElem? (i := 194) rfl) rfl, mb_1 (List.mem_of_getElem? (i := 1) rfl) rfl, mb_2 (List.mem_of_getElem? (i := 192) rfl) rfl, fun _ => mb_2 (List.mem_of_getElem? (i := 193) rfl) rfl⟩
set_option maxRecDepth 100000 in
theorem mwR_110 : mwR mr_110 := ⟨mb_2 (List.mem_of_getElem? (i := 222) rfl) rfl, mb_1 (List.mem_of_getElem? (i := 1) rfl) rfl, mb_2 (List.mem_of_getElem? (i := 220) rfl) rfl, fun _ => mb_2 (List.mem_of_getElem? (i := 221) rfl) rfl⟩
set_option maxRecDepth 100000 in
theorem mwR_111 : mwR mr_111 := ⟨mb_3 (List.mem_of_getElem? (i := 10) rfl) rfl, mb_1 (List.mem_of_getElem? (i := 1) rfl) rfl, mb_3 (List.mem_of_getElem? (i := 8) rfl) rfl, fun _ => mb_3 (List.mem_of_getElem? (i := 9) rfl) rfl⟩
set_option maxRecDepth 100000 in
theorem mwR_112 : mwR mr_112 := ⟨mb_3 (List.mem_of_getElem? (i := 22) rfl) rfl, mb_1 (List.mem_of_getElem? (i := 1) rfl) rfl, mb_3 (List.mem_of_getElem? (i := 20) rfl) rfl, fun _ => mb_3 (List.mem_of_getElem? (i := 21) rfl) rfl⟩
set_option maxRecDepth 100000 in
theorem mwR_113 : mwR mr_113 := ⟨mb_3 (List.mem_of_getElem? (i := 34) rfl) rfl, mb_1 (List.mem_of_getElem? (i := 1) rfl) rfl, mb_3 (List.mem_of_getElem? (i := 32) rfl) rfl, fun _ => mb_3 (List.mem_of_getElem? (i := 33) rfl) rfl⟩
set_option maxRecDepth 100000 in
theorem mwR_114 : mwR mr_114 := ⟨mb_3 (List.mem_of_getElem? (i := 144) rfl) rfl, mb_1 (List.mem_of_getElem? (i := 1) rfl) rfl, mb_3 (List.mem_of_getElem? (i := 142) rfl) rfl, fun _ => mb_3 (List.mem_of_getElem? (i := 143) rfl) rfl⟩
set_option maxRecDepth 100000 in
theorem mwR_115 : mwR mr_115 := ⟨mb_3 (List.mem_of_getElem? (i := 148) rfl) rfl, mb_1 (List.mem_of_getElem? (i := 1) rfl) rfl, mb_3 (List.mem_of_getElem? (i := 146) rfl) rfl, fun _ => mb_3 (List.mem_of_getElem? (i := 147) rfl) rfl⟩
set_option maxRecDepth 100000 in
theorem mwR_116 : mwR mr_116 := ⟨mb_3 (List.mem_of_getElem? (i := 184) rfl) rfl, mb_1 (List.mem_of_getElem? (i := 1) rfl) rfl, mb_3 (List.mem_of_getElem? (i := 182) rfl) rfl, fun _ => mb_3 (List.mem_of_getElem? (i := 183) rfl) rfl⟩
set_option maxRecDepth 100000 in
theorem mwR_117 : mwR mr_117 := ⟨mb_3 (List.mem_of_getElem? (i := 192) rfl) rfl, mb_1 (List.mem_of_getElem? (i := 1) rfl) rfl, mb_3 (List.mem_of_getElem? (i := 190) rfl) rfl, fun _ => mb_3 (List.mem_of_getElem? (i := 191) rfl) rfl⟩
set_option maxRecDepth 100000 in
theorem mwR_118 : mwR mr_118 := ⟨mb_3 (List.mem_of_getElem? (i := 197) rfl) rfl, mb_1 (List.mem_of_getElem? (i := 1) rfl) rfl, mb_3 (List.mem_of_getElem? (i := 195) rfl) rfl, fun _ => mb_3 (List.mem_of_getElem? (i := 196) rfl) rfl⟩
set_option maxRecDepth 100000 in
theorem mwR_119 : mwR mr_119 := ⟨mb_3 (List.mem_of_getElem? (i := 219) rfl) rfl, mb_1 (List.mem_of_getElem? (i := 1) rfl) rfl, mb_3 (List.mem_of_getElem? (i := 217) rfl) rfl, fun _ => mb_3 (List.mem_of_getElem? (i := 218) rfl) rfl⟩
set_option maxRecDepth 100000 in
theorem mwR_120 : mwR mr_120 := ⟨mb_4 (List.mem_of_getElem? (i := 82) rfl) rfl, mb_1 (List.mem_of_getElem? (i := 1) rfl) rfl, mb_4 (List.mem_of_getElem? (i := 80) rfl) rfl, fun _ => mb_4 (List.mem_of_getElem? (i := 81) rfl) rfl⟩
set_option maxRecDepth 100000 in
theorem mwR_121 : mwR mr_121 := ⟨mb_4 (List.mem_of_getElem? (i := 153) rfl) rfl, mb_1 (List.mem_of_getElem? (i := 1) rfl) rfl, mb_4 (List.mem_of_getElem? (i := 151) rfl) rfl, fun _ => mb_4 (List.mem_of_getElem? (i := 152) rfl) rfl⟩
set_option maxRecDepth 100000 in
theorem mwR_122 : mwR mr_122 := ⟨mb_4 (List.mem_of_getElem? (i := 162) rfl) rfl, mb_1 (List.mem_of_getElem? (i := 1) rfl) rfl, mb_4 (List.mem_of_getElem? (i := 160) rfl) rfl, fun _ => mb_4 (List.mem_of_getElem? (i := 161) rfl) rfl⟩
set_option maxRecDepth 100000 in
theorem mwR_123 : mwR mr_123 := ⟨mb_4 (List.mem_of_getElem? (i := 166) rfl) rfl, mb_1 (List.mem_of_getElem? (i := 1) rfl) rfl, mb_4 (List.mem_of_getElem? (i := 164) rfl) rfl, fun _ => mb_4 (List.mem_of_getElem? (i := 165) rfl) rfl⟩
set_option maxRecDepth 100000 in
theorem mwR_124 : mwR mr_124 := ⟨mb_4 (List.mem_of_getElem? (i := 170) rfl) rfl, mb_1 (List.mem_of_getElem? (i := 1) rfl) rfl, mb_4 (List.mem_of_getElem? (i := 168) rfl) rfl, fun _ => mb_4 (List.mem_of_getElem? (i := 169) rfl) rfl⟩
set_option maxRecDepth 100000 in
theorem mwR_125 : mwR mr_125 := ⟨mb_4 (List.mem_of_getElem? (i := 209) rfl) rfl, mb_1 (List.mem_of_getElem? (i := 1) rfl) rfl, mb_4 (List.mem_of_getElem? (i := 207) rfl) rfl, fun _ => mb_4 (List.mem_of_getElem? (i := 208) rfl) rfl⟩
set_option maxRecDepth 100000 in
theorem mwR_126 : mwR mr_126 := ⟨mb_4 (List.mem_of_getElem? (i := 222) rfl) rfl, mb_1 (List.mem_of_getElem? (i := 1) rfl) rfl, mb_4 (List.mem_of_getElem? (i := 220) rfl) rfl, fun _ => mb_4 (List.mem_of_getElem? (i := 221) rfl) rfl⟩
set_option maxRecDepth 100000 in
theorem mwR_127 : mwR mr_127 := ⟨mb_5 (List.mem_of_getElem? (i := 26) rfl) rfl, mb_1 (List.mem_of_getElem? (i := 1) rfl) rfl, mb_5 (List.mem_of_getElem? (i := 24) rfl) rfl, fun _ => mb_5 (List.mem_of_getElem? (i := 25) rfl) rfl⟩
set_option maxRecDepth 100000 in
theorem mwR_128 : mwR mr_128 := ⟨mb_5 (List.mem_of_getElem? (i := 39) rfl) rfl, mb_1 (List.mem_of_getElem? (i := 1) rfl) rfl, mb_5 (List.mem_of_getElem? (i := 37) rfl) rfl, fun _ => mb_5 (List.mem_of_getElem? (i := 38) rfl) rfl⟩
set_option maxRecDepth 100000 in
theorem mwR_129 : mwR mr_129 := ⟨mb_5 (List.mem_of_getElem? (i := 47) rfl) rfl, mb_1 (List.mem_of_getElem? (i := 1) rfl) rfl, mb_5 (List.mem_of_getElem? (i := 45) rfl) rfl, fun _ => mb_5 (List.mem_of_getElem? (i := 46) rfl) rfl⟩
set_option maxRecDepth 100000 in
theorem mwR_130 : mwR mr_130 := ⟨mb_5 (List.mem_of_getElem? (i := 51) rfl) rfl, mb_1 (List.mem_of_getElem? (i := 1) rfl) rfl, mb_5 (List.mem_of_getElem? (i := 49) rfl) rfl, fun _ => mb_5 (List.mem_of_getElem? (i := 50) rfl) rfl⟩
set_option maxRecDepth 100000 in
theorem mwR_131 : mwR mr_131 := ⟨mb_5 (List.mem_of_getElem? (i := 62) rfl) rfl, mb_1 (List.mem_of_getElem? (i := 1) rfl) rfl, mb_5 (List.mem_of_getElem? (i := 60) rfl) rfl, fun _ => mb_5 (List.mem_of_getElem? (i := 61) rfl) rfl⟩
set_option maxRecDepth 100000 in
theorem mwR_132 : mwR mr_132 := ⟨mb_5 (List.mem_of_getElem? (i := 85) rfl) rfl, mb_1 (List.mem_of_getElem? (i := 1) rfl) rfl, mb_5 (List.mem_of_getElem? (i := 83) rfl) rfl, fun _ => mb_5 (List.mem_of_getElem? (i := 84) rfl) rfl⟩
set_option maxRecDepth 100000 in
theorem mwR_133 : mwR mr_133 := ⟨mb_5 (List.mem_of_getElem? (i := 90) rfl) rfl, mb_1 (List.mem_of_getElem? (i := 1) rfl) rfl, mb_5 (List.mem_of_getElem? (i := 88) rfl) rfl, fun _ => mb_5 (List.mem_of_getElem? (i := 89) rfl) rfl⟩
set_option maxRecDepth 100000 in
theorem mwR_134 : mwR mr_134 := ⟨mb_5 (List.mem_of_getElem? (i := 98) rfl) rfl, mb_1 (List.mem_of_getElem? (i := 1) rfl) rfl, mb_5 (List.mem_of_getElem? (i := 96) rfl) rfl, fun _ => mb_5 (List.mem_of_getElem? (i := 97) rfl) rfl⟩
set_option maxRecDepth 100000 in
theorem mwR_135 : mwR mr_135 := ⟨mb_5 (List.mem_of_getElem? (i := 102) rfl) rfl, mb_1 (List.mem_of_getElem? (i := 1) rfl) rfl, mb_5 (List.mem_of_getElem? (i := 100) rfl) rfl, fun _ => mb_5 (List.mem_of_getElem? (i := 101) rfl) rfl⟩
set_option maxRecDepth 100000 in
theorem mwR_136 : mwR mr_136 := ⟨mb_5 (List.mem_of_getElem? (i := 114) rfl) rfl, mb_1 (List.mem_of_getElem? (i := 1) rfl) rfl, mb_5 (List.mem_of_getElem? (i := 112) rfl) rfl, fun _ => mb_5 (List.mem_of_getElem? (i := 113) rfl) rfl⟩
set_option maxRecDepth 100000 in
theorem mwR_137 : mwR mr_137 := ⟨mb_5 (List.mem_of_getElem? (i := 134) rfl) rfl, mb_1 (List.mem_of_getElem? (i := 1) rfl) rfl, mb_5 (List.mem_of_getElem? (i := 132) rfl) rfl, fun _ => mb_5 (List.mem_of_getElem? (i := 133) rfl) rfl⟩
set_option maxRecDepth 100000 in
theorem mwR_138 : mwR mr_138 := ⟨mb_5 (List.mem_of_getElem? (i := 157) rfl) rfl, mb_1 (List.mem_of_getElem? (i := 1) rfl) rfl, mb_5 (List.mem_of_getElem? (i := 155) rfl) rfl, fun _ => mb_5 (List.mem_of_getElem? (i := 156) rfl) rfl⟩
set_option maxRecDepth 100000 in
theorem mwR_139 : mwR mr_139 := ⟨mb_2 (List.mem_of_getElem? (i := 186) rfl) rfl, mb_1 (List.mem_of_getElem? (i := 1) rfl) rfl, mb_2 (List.mem_of_getElem? (i := 185) rfl) rfl, fun _ => mb_0 (List.mem_of_getElem? (i := 0) rfl) rfl⟩
set_option maxRecDepth 100000 in
theorem mwR_140 : mwR mr_140 := ⟨mb_2 (List.mem_of_getElem? (i := 239) rfl) rfl, mb_1 (List.mem_of_getElem? (i := 1) rfl) rfl, mb_2 (List.mem_of_getElem? (i := 238) rfl) rfl, fun h => absurd h (by decide)⟩
set_option maxRecDepth 100000 in
theorem mwR_141 : mwR mr_141 := ⟨mb_4 (List.mem_of_getElem? (i := 20) rfl) rfl, mb_1 (List.mem_of_getElem? (i := 1) rfl) rfl, mb_4 (List.mem_of_getElem? (i := 19) rfl) rfl, fun h => absurd h (by decide)⟩
set_option maxRecDepth 100000 in
theorem mwR_142 : mwR mr_142 := ⟨mb_4 (List.mem_of_getElem? (i := 8) rfl) rfl, mb_1 (List.mem_of_getElem? (i := 1) rfl) rfl, mb_4 (List.mem_of_getElem? (i := 7) rfl) rfl, fun h => absurd h (by decide)⟩
set_option maxRecDepth 100000 in
theorem mwR_143 : mwR mr_143 := ⟨mb_4 (List.mem_of_getElem? (i := 26) rfl) rfl, mb_1 (List.mem_of_getElem? (i := 1) rfl) rfl, mb_4 (List.mem_of_getElem? (i := 25) rfl) rfl, fun h => absurd h (by decide)⟩
set_option maxRecDepth 100000 in
theorem mwR_144 : mwR mr_144 := ⟨mb_4 (List.mem_of_getElem? (i := 145) rfl) rfl, mb_1 (List.mem_of_getElem? (i := 1) rfl) rfl, mb_4 (List.mem_of_getElem? (i := 144) rfl) rfl, fun h => absurd h (by decide)⟩
set_option maxRecDepth 100000 in
theorem mwR_145 : mwR mr_145 := ⟨mb_2 (List.mem_of_getElem? (i := 235) rfl) rfl, mb_1 (List.mem_of_getElem? (i := 1) rfl) rfl, mb_2 (List.mem_of_getElem? (i := 234) rfl) rfl, fun h => absurd h (by decide)⟩
set_option maxRecDepth 100000 in
theorem mwR_146 : mwR mr_146 := ⟨mb_3 (List.mem_of_getElem? (i := 13) rfl) rfl, mb_1 (List.mem_of_getElem? (i := 1) rfl) rfl, mb_3 (List.mem_of_getElem? (i := 12) rfl) rfl, fun h => absurd h (by decide)⟩
set_option maxRecDepth 100000 in
theorem mwR_147 : mwR mr_147 := ⟨mb_2 (List.mem_of_getElem? (i := 232) rfl) rfl, mb_1 (List.mem_of_getElem? (i := 1) rfl) rfl, mb_2 (List.mem_of_getElem? (i := 231) rfl) rfl, fun h => absurd h (by decide)⟩
set_option maxRecDepth 100000 in
theorem mwR_148 : mwR mr_148 := ⟨mb_2 (List.mem_of_getElem? (i := 229) rfl) rfl, mb_1 (List.mem_of_getElem? (i := 1) rfl) rfl, mb_2 (List.mem_of_getElem? (i := 228) rfl) rfl, fun h => absurd h (by decide)⟩
set_option maxRecDepth 100000 in
theorem mwR_149 : mwR mr_149 := ⟨mb_3 (List.mem_of_getElem? (i := 222) rfl) rfl, mb_1 (List.mem_of_getElem? (i := 1) rfl) rfl, mb_3 (List.mem_of_getElem? (i := 221) rfl) rfl, fun h => absurd h (by decide)⟩
set_option maxRecDepth 100000 in
theorem mwR_150 : mwR mr_150 := ⟨mb_4 (List.mem_of_getElem? (i := 85) rfl) rfl, mb_1 (List.mem_of_getElem? (i := 1) rfl) rfl, mb_4 (List.mem_of_getElem? (i := 84) rfl) rfl, fun h => absurd h (by decide)⟩
set_option maxRecDepth 100000 in
theorem mwR_151 : mwR mr_151 := ⟨mb_4 (List.mem_of_getElem? (i := 212) rfl) rfl, mb_1 (List.mem_of_getElem? (i := 1) rfl) rfl, mb_4 (List.mem_of_getElem? (i := 211) rfl) rfl, fun h => absurd h (by decide)⟩
set_option maxRecDepth 100000 in
theorem mwR_152 : mwR mr_152 := ⟨mb_2 (List.mem_of_getElem? (i := 202) rfl) rfl, mb_1 (List.mem_of_getElem? (i := 1) rfl) rfl, mb_2 (List.mem_of_getElem? (i := 201) rfl) rfl, fun _ => mb_0 (List.mem_of_getElem? (i := 3) rfl) rfl⟩
set_option maxRecDepth 100000 in
theorem mwR_153 : mwR mr_153 := ⟨mb_2 (List.mem_of_getElem? (i := 190) rfl) rfl, mb_1 (List.mem_of_getElem? (i := 1) rfl) rfl, mb_2 (List.mem_of_getElem? (i := 189) rfl) rfl, fun _ => mb_0 (List.mem_of_getElem? (i := 1) rfl) rfl⟩
set_option maxRecDepth 100000 in
theorem mwR_154 : mwR mr_154 := ⟨mb_2 (List.mem_of_getElem? (i := 198) rfl) rfl, mb_1 (List.mem_of_getElem? (i := 1) rfl) rfl, mb_2 (List.mem_of_getElem? (i := 197) rfl) rfl, fun _ => mb_0 (List.mem_of_getElem? (i := 2) rfl) rfl⟩
set_option maxRecDepth 100000 in
theorem mwR_155 : mwR mr_155 := ⟨mb_2 (List.mem_of_getElem? (i := 226) rfl) rfl, mb_1 (List.mem_of_getElem? (i := 1) rfl) rfl, mb_2 (List.mem_of_getElem? (i := 225) rfl) rfl, fun _ => mb_0 (List.mem_of_getElem? (i := 4) rfl) rfl⟩
set_option maxRecDepth 100000 in
theorem mwR_156 : mwR mr_156 := ⟨mb_3 (List.mem_of_getElem? (i := 152) rfl) rfl, mb_1 (List.mem_of_getElem? (i := 1) rfl) rfl, mb_3 (List.mem_of_getElem? (i := 151) rfl) rfl, fun _ => mb_0 (List.mem_of_getElem? (i := 20) rfl) rfl⟩
set_option maxRecDepth 100000 in
theorem mwR_157 : mwR mr_157 := ⟨mb_4 (List.mem_of_getElem? (i := 157) rfl) rfl, mb_1 (List.mem_of_getElem? (i := 1) rfl) rfl, mb_4 (List.mem_of_getElem? (i := 156) rfl) rfl, fun _ => mb_0 (List.mem_of_getElem? (i := 33) rfl) rfl⟩
set_option maxRecDepth 100000 in
theorem mwR_158 : mwR mr_158 := ⟨mb_4 (List.mem_of_getElem? (i := 226) rfl) rfl, mb_1 (List.mem_of_getElem? (i := 1) rfl) rfl, mb_4 (List.mem_of_getElem? (i := 225) rfl) rfl, fun _ => mb_0 (List.mem_of_getElem? (i := 41) rfl) rfl⟩
set_option maxRecDepth 100000 in
theorem mwR_159 : mwR mr_159 := ⟨mb_3 (List.mem_of_getElem? (i := 200) rfl) rfl, mb_1 (List.mem_of_getElem? (i := 1) rfl) rfl, mb_3 (List.mem_of_getElem? (i := 199) rfl) rfl, fun h => absurd h (by decide)⟩
set_option maxRecDepth 100000 in
theorem mwR_160 : mwR mr_160 := ⟨mb_3 (List.mem_of_getElem? (i := 208) rfl) rfl, mb_1 (List.mem_of_getElem? (i := 1) rfl) rfl, mb_3 (List.mem_of_getElem? (i := 207) rfl) rfl, fun _ => mb_0 (List.mem_of_getElem? (i := 22) rfl) rfl⟩
set_option maxRecDepth 100000 in
theorem mwR_161 : mwR mr_161 := ⟨mb_4 (List.mem_of_getElem? (i := 78) rfl) rfl, mb_1 (List.mem_of_getElem? (i := 1) rfl) rfl, mb_4 (List.mem_of_getElem? (i := 77) rfl) rfl, fun _ => mb_0 (List.mem_of_getElem? (i := 27) rfl) rfl⟩
set_option maxRecDepth 100000 in
theorem mwR_162 : mwR mr_162 := ⟨mb_3 (List.mem_of_getElem? (i := 226) rfl) rfl, mb_1 (List.mem_of_getElem? (i := 1) rfl) rfl, mb_3 (List.mem_of_getElem? (i := 225) rfl) rfl, fun _ => mb_0 (List.mem_of_getElem? (i := 23) rfl) rfl⟩
set_option maxRecDepth 100000 in
theorem mwR_163 : mwR mr_163 := ⟨mb_5 (List.mem_of_getElem? (i := 94) rfl) rfl, mb_1 (List.mem_of_getElem? (i := 1) rfl) rfl, mb_5 (List.mem_of_getElem? (i := 93) rfl) rfl, fun _ => mb_0 (List.mem_of_getElem? (i := 49) rfl) rfl⟩
set_option maxRecDepth 100000 in
theorem mwR_164 : mwR mr_164 := ⟨mb_4 (List.mem_of_getElem? (i := 94) rfl) rfl, mb_1 (List.mem_of_getElem? (i := 1) rfl) rfl, mb_4 (List.mem_of_getElem? (i := 93) rfl) rfl, fun _ => mb_0 (List.mem_of_getElem? (i := 28) rfl) rfl⟩
set_option maxRecDepth 100000 in
theorem mwR_165 : mwR mr_165 := ⟨mb_5 (List.mem_of_getElem? (i := 106) rfl) rfl, mb_1 (List.mem_of_getElem? (i := 1) rfl) rfl, mb_5 (List.mem_of_getElem? (i := 105) rfl) rfl, fun _ => mb_0 (List.mem_of_getElem? (i := 50) rfl) rfl⟩
set_option maxRecDepth 100000 in
theorem mwR_166 : mwR mr_166 := ⟨mb_5 (List.mem_of_getElem? (i := 73) rfl) rfl, mb_1 (List.mem_of_getElem? (i := 1) rfl) rfl, mb_5 (List.mem_of_getElem? (i := 72) rfl) rfl, fun _ => mb_0 (List.mem_of_getElem? (i := 47) rfl) rfl⟩
set_option maxRecDepth 100000 in
theorem mwR_167 : mwR mr_167 := ⟨mb_5 (List.mem_of_getElem? (i := 77) rfl) rfl, mb_1 (List.mem_of_getElem? (i := 1) rfl) rfl, mb_5 (List.mem_of_getElem? (i := 76) rfl) rfl, fun _ => mb_0 (List.mem_of_getElem? (i := 48) rfl) rfl⟩
set_option maxRecDepth 100000 in
theorem mwR_168 : mwR mr_168 := ⟨mb_5 (List.mem_of_getElem? (i := 22) rfl) rfl, mb_1 (List.mem_of_getElem? (i := 1) rfl) rfl, mb_5 (List.mem_of_getElem? (i := 21) rfl) rfl, fun _ => mb_0 (List.mem_of_getElem? (i := 46) rfl) rfl⟩
set_option maxRecDepth 100000 in
theorem mwR_169 : mwR mr_169 := ⟨mb_4 (List.mem_of_getElem? (i := 174) rfl) rfl, mb_1 (List.mem_of_getElem? (i := 1) rfl) rfl, mb_4 (List.mem_of_getElem? (i := 173) rfl) rfl, fun _ => mb_0 (List.mem_of_getElem? (i := 34) rfl) rfl⟩
set_option maxRecDepth 100000 in
theorem mwR_170 : mwR mr_170 := ⟨mb_5 (List.mem_of_getElem? (i := 128) rfl) rfl, mb_1 (List.mem_of_getElem? (i := 1) rfl) rfl, mb_5 (List.mem_of_getElem? (i := 127) rfl) rfl, fun h => absurd h (by decide)⟩
set_option maxRecDepth 100000 in
theorem mwR_171 : mwR mr_171 := ⟨mb_5 (List.mem_of_getElem? (i := 162) rfl) rfl, mb_1 (List.mem_of_getElem? (i := 13) rfl) rfl, mb_5 (List.mem_of_getElem? (i := 161) rfl) rfl, fun h => absurd h (by decide)⟩
set_option maxRecDepth 100000 in
theorem mwR_172 : mwR mr_172 := ⟨mb_6 (List.mem_of_getElem? (i := 143) rfl) rfl, mb_1 (List.mem_of_getElem? (i := 13) rfl) rfl, mb_6 (List.mem_of_getElem? (i := 142) rfl) rfl, fun _ => mb_0 (List.mem_of_getElem? (i := 51) rfl) rfl⟩
set_option maxRecDepth 100000 in
theorem mwR_173 : mwR mr_173 := ⟨mb_6 (List.mem_of_getElem? (i := 139) rfl) rfl, mb_1 (List.mem_of_getElem? (i := 13) rfl) rfl, mb_6 (List.mem_of_getElem? (i := 138) rfl) rfl, fun h => absurd h (by decide)⟩
set_option maxRecDepth 100000 in
theorem mwR_174 : mwR mr_174 := ⟨mb_7 (List.mem_of_getElem? (i := 67) rfl) rfl, mb_1 (List.mem_of_getElem? (i := 13) rfl) rfl, mb_7 (List.mem_of_getElem? (i := 66) rfl) rfl, fun h => absurd h (by decide)⟩
set_option maxRecDepth 100000 in
theorem mwR_175 : mwR mr_175 := ⟨mb_7 (List.mem_of_getElem? (i := 64) rfl) rfl, mb_1 (List.mem_of_getElem? (i := 13) rfl) rfl, mb_7 (List.mem_of_getElem? (i := 63) rfl) rfl, fun h => absurd h (by decide)⟩
set_option maxRecDepth 100000 in
theorem mwR_176 : mwR mr_176 := ⟨mb_6 (List.mem_of_getElem? (i := 173) rfl) rfl, mb_1 (List.mem_of_getElem? (i := 13) rfl) rfl, mb_6 (List.mem_of_getElem? (i := 172) rfl) rfl, fun h => absurd h (by decide)⟩
set_option maxRecDepth 100000 in
theorem mwR_177 : mwR mr_177 := ⟨mb_6 (List.mem_of_getElem? (i := 151) rfl) rfl, mb_1 (List.mem_of_getElem? (i := 13) rfl) rfl, mb_6 (List.mem_of_getElem? (i := 150) rfl) rfl, fun _ => mb_0 (List.mem_of_getElem? (i := 52) rfl) rfl⟩
set_option maxRecDepth 100000 in
theorem mwR_178 : mwR mr_178 := ⟨mb_6 (List.mem_of_getElem? (i := 136) rfl) rfl, mb_1 (List.mem_of_getElem? (i := 13) rfl) rfl, mb_6 (List.mem_of_getElem? (i := 134) rfl) rfl, fun _ => mb_6 (List.mem_of_getElem? (i := 135) rfl) rfl⟩
set_option maxRecDepth 100000 in
theorem mwR_179 : mwR mr_179 := ⟨mb_6 (List.mem_of_getElem? (i := 155) rfl) rfl, mb_1 (List.mem_of_getElem? (i := 13) rfl) rfl, mb_6 (List.mem_of_getElem? (i := 154) rfl) rfl, fun _ => mb_0 (List.mem_of_getElem? (i := 53) rfl) rfl⟩
set_option maxRecDepth 100000 in
theorem mwR_180 : mwR mr_180 := ⟨mb_6 (List.mem_of_getElem? (i := 159) rfl) rfl, mb_1 (List.mem_of_getElem? (i := 13) rfl) rfl, mb_6 (List.mem_of_getElem? (i := 158) rfl) rfl, fun _ => mb_0 (List.mem_of_getElem? (i := 54) rfl) rfl⟩
set_option maxRecDepth 100000 in
theorem mwR_181 : mwR mr_181 := ⟨mb_6 (List.mem_of_getElem? (i := 147) rfl) rfl, mb_1 (List.mem_of_getElem? (i := 13) rfl) rfl, mb_6 (List.mem_of_getElem? (i := 145) rfl) rfl, fun _ => mb_6 (List.mem_of_getElem? (i := 146) rfl) rfl⟩
set_option maxRecDepth 100000 in
theorem mwR_182 : mwR mr_182 := ⟨mb_6 (List.mem_of_getElem? (i := 167) rfl) rfl, mb_1 (List.mem_of_getElem? (i := 13) rfl) rfl, mb_6 (List.mem_of_getElem? (i := 166) rfl) rfl, fun _ => mb_0 (List.mem_of_getElem? (i := 55) rfl) rfl⟩
set_option maxRecDepth 100000 in
theorem mwR_183 : mwR mr_183 := ⟨mb_6 (List.mem_of_getElem? (i := 170) rfl) rfl, mb_1 (List.mem_of_getElem? (i := 13) rfl) rfl, mb_6 (List.mem_of_getElem? (i := 169) rfl) rfl, fun h => absurd h (by decide)⟩
set_option maxRecDepth 100000 in
theorem mwR_184 : mwR mr_184 := ⟨mb_6 (List.mem_of_getElem? (i := 180) rfl) rfl, mb_1 (List.mem_of_getElem? (i := 13) rfl) rfl, mb_6 (List.mem_of_getElem? (i := 179) rfl) rfl, fun _ => mb_0 (List.mem_of_getElem? (i := 56) rfl) rfl⟩
set_option maxRecDepth 100000 in
theorem mwR_185 : mwR mr_185 := ⟨mb_6 (List.mem_of_getElem? (i := 188) rfl) rfl, mb_1 (List.mem_of_getElem? (i := 13) rfl) rfl, mb_6 (List.mem_of_getElem? (i := 187) rfl) rfl, fun _ => mb_0 (List.mem_of_getElem? (i := 57) rfl) rfl⟩
set_option maxRecDepth 100000 in
theorem mwR_186 : mwR mr_186 := ⟨mb_6 (List.mem_of_getElem? (i := 163) rfl) rfl, mb_1 (List.mem_of_getElem? (i := 13) rfl) rfl, mb_6 (List.mem_of_getElem? (i := 161) rfl) rfl, fun _ => mb_6 (List.mem_of_getElem? (i := 162) rfl) rfl⟩
set_option maxRecDepth 100000 in
theorem mwR_187 : mwR mr_187 := ⟨mb_6 (List.mem_of_getElem? (i := 184) rfl) rfl, mb_1 (List.mem_of_getElem? (i := 13) rfl) rfl, mb_6 (List.mem_of_getElem? (i := 182) rfl) rfl, fun _ => mb_6 (List.mem_of_getElem? (i := 183) rfl) rfl⟩
set_option maxRecDepth 100000 in
theorem mwR_188 : mwR mr_188 := ⟨mb_6 (List.mem_of_getElem? (i := 192) rfl) rfl, mb_1 (List.mem_of_getElem? (i := 13) rfl) rfl, mb_6 (List.mem_of_getElem? (i := 190) rfl) rfl, fun _ => mb_6 (List.mem_of_getElem? (i := 191) rfl) rfl⟩
set_option maxRecDepth 100000 in
theorem mwR_189 : mwR mr_189 := ⟨mb_6 (List.mem_of_getElem? (i := 204) rfl) rfl, mb_1 (List.mem_of_getElem? (i := 13) rfl) rfl, mb_6 (List.mem_of_getElem? (i := 203) rfl) rfl, fun _ => mb_0 (List.mem_of_getElem? (i := 59) rfl) rfl⟩
set_option maxRecDepth 100000 in
theorem mwR_190 : mwR mr_190 := ⟨mb_6 (List.mem_of_getElem? (i := 212) rfl) rfl, mb_1 (List.mem_of_getElem? (i := 13) rfl) rfl, mb_6 (List.mem_of_getElem? (i := 211) rfl) rfl, fun _ => mb_0 (List.mem_of_getElem? (i := 61) rfl) rfl⟩
set_option maxRecDepth 100000 in
theorem mwR_191 : mwR mr_191 := ⟨mb_6 (List.mem_of_getElem? (i := 216) rfl) rfl, mb_1 (List.mem_of_getElem? (i := 13) rfl) rfl, mb_6 (List.mem_of_getElem? (i := 215) rfl) rfl, fun _ => mb_0 (List.mem_of_getElem? (i := 62) rfl) rfl⟩
set_option maxRecDepth 100000 in
theorem mwR_192 : mwR mr_192 := ⟨mb_6 (List.mem_of_getElem? (i := 220) rfl) rfl, mb_1 (List.mem_of_getElem? (i := 13) rfl) rfl, mb_6 (List.mem_of_getElem? (i := 219) rfl) rfl, fun _ => mb_0 (List.mem_of_getElem? (i := 63) rfl) rfl⟩
set_option maxRecDepth 100000 in
theorem mwR_193 : mwR mr_193 := ⟨mb_6 (List.mem_of_getElem? (i := 208) rfl) rfl, mb_1 (List.mem_of_getElem? (i := 13) rfl) rfl, mb_6 (List.mem_of_getElem? (i := 207) rfl) rfl, fun _ => mb_0 (List.mem_of_getElem? (i := 60) rfl) rfl⟩
set_option maxRecDepth 100000 in
theorem mwR_194 : mwR mr_194 := ⟨mb_6 (List.mem_of_getElem? (i := 228) rfl) rfl, mb_1 (List.mem_of_getElem? (i := 13) rfl) rfl, mb_6 (List.mem_of_getElem? (i := 227) rfl) rfl, fun _ => mb_0 (List.mem_of_getElem? (i := 65) rfl) rfl⟩
set_option maxRecDepth 100000 in
theorem mwR_195 : mwR mr_195 := ⟨mb_6 (List.mem_of_getElem? (i := 232) rfl) rfl, mb_1 (List.mem_of_getElem? (i := 13) rfl) rfl, mb_6 (List.mem_of_getElem? (i := 231) rfl) rfl, fun _ => mb_0 (List.mem_of_getElem? (i := 66) rfl) rfl⟩
set_option maxRecDepth 100000 in
theorem mwR_196 : mwR mr_196 := ⟨mb_6 (List.mem_of_getElem? (i := 224) rfl) rfl, mb_1 (List.mem_of_getElem? (i := 13) rfl) rfl, mb_6 (List.mem_of_getElem? (i := 223) rfl) rfl, fun _ => mb_0 (List.mem_of_getElem? (i := 64) rfl) rfl⟩
set_option maxRecDepth 100000 in
theorem mwR_197 : mwR mr_197 := ⟨mb_6 (List.mem_of_getElem? (i := 200) rfl) rfl, mb_1 (List.mem_of_getElem? (i := 13) rfl) rfl, mb_6 (List.mem_of_getElem? (i := 199) rfl) rfl, fun _ => mb_0 (List.mem_of_getElem? (i := 58) rfl) rfl⟩
set_option maxRecDepth 100000 in
theorem mwR_198 : mwR mr_198 := ⟨mb_6 (List.mem_of_getElem? (i := 196) rfl) rfl, mb_1 (List.mem_of_getElem? (i := 13) rfl) rfl, mb_6 (List.mem_of_getElem? (i := 194) rfl) rfl, fun _ => mb_6 (List.mem_of_getElem? (i := 195) rfl) rfl⟩
set_option maxRecDepth 100000 in
theorem mwR_199 : mwR mr_199 := ⟨mb_6 (List.mem_of_getElem? (i := 236) rfl) rfl, mb_1 (List.mem_of_getElem? (i := 13) rfl) rfl, mb_6 (List.mem_of_getElem? (i := 234) rfl) rfl, fun _ => mb_6 (List.mem_of_getElem? (i := 235) rfl) rfl⟩
set_option maxRecDepth 100000 in
theorem mwR_200 : mwR mr_200 := ⟨mb_7 (List.mem_of_getElem? (i := 9) rfl) rfl, mb_1 (List.mem_of_getElem? (i := 13) rfl) rfl, mb_7 (List.mem_of_getElem? (i := 8) rfl) rfl, fun _ => mb_0 (List.mem_of_getElem? (i := 68) rfl) rfl⟩
set_option maxRecDepth 100000 in
theorem mwR_201 : mwR mr_201 := ⟨mb_7 (List.mem_of_getElem? (i := 4) rfl) rfl, mb_1 (List.mem_of_getElem? (i := 13) rfl) rfl, mb_7 (List.mem_of_getElem? (i := 3) rfl) rfl, fun _ => mb_0 (List.mem_of_getElem? (i := 67) rfl) rfl⟩
set_option maxRecDepth 100000 in
theorem mwR_202 : mwR mr_202 := ⟨mb_7 (List.mem_of_getElem? (i := 13) rfl) rfl, mb_1 (List.mem_of_getElem? (i := 13) rfl) rfl, mb_7 (List.mem_of_getElem? (i := 12) rfl) rfl, fun h => absurd h (by decide)⟩
set_option maxRecDepth 100000 in
theorem mwR_203 : mwR mr_203 := ⟨mb_7 (List.mem_of_getElem? (i := 16) rfl) rfl, mb_1 (List.mem_of_getElem? (i := 13) rfl) rfl, mb_7 (List.mem_of_getElem? (i := 15) rfl) rfl, fun h => absurd h (by decide)⟩
set_option maxRecDepth 100000 in
theorem mwR_204 : mwR mr_204 := ⟨mb_7 (List.mem_of_getElem? (i := 20) rfl) rfl, mb_1 (List.mem_of_getElem? (i := 13) rfl) rfl, mb_7 (List.mem_of_getElem? (i := 19) rfl) rfl, fun h => absurd h (by decide)⟩
set_option maxRecDepth 100000 in
theorem mwR_205 : mwR mr_205 := ⟨mb_7 (List.mem_of_getElem? (i := 24) rfl) rfl, mb_1 (List.mem_of_getElem? (i := 13) rfl) rfl, mb_7 (List.mem_of_getElem? (i := 23) rfl) rfl, fun _ => mb_0 (List.mem_of_getElem? (i := 69) rfl) rfl⟩
set_option maxRecDepth 100000 in
theorem mwR_206 : mwR mr_206 := ⟨mb_7 (List.mem_of_getElem? (i := 0) rfl) rfl, mb_1 (List.mem_of_getElem? (i := 13) rfl) rfl, mb_6 (List.mem_of_getElem? (i := 238) rfl) rfl, fun _ => mb_6 (List.mem_of_getElem? (i := 239) rfl) rfl⟩
set_option maxRecDepth 100000 in
theorem mwR_207 : mwR mr_207 := ⟨mb_7 (List.mem_of_getElem? (i := 28) rfl) rfl, mb_1 (List.mem_of_getElem? (i := 13) rfl) rfl, mb_7 (List.mem_of_getElem? (i := 26) rfl) rfl, fun _ => mb_7 (List.mem_of_getElem? (i := 27) rfl) rfl⟩
set_option maxRecDepth 100000 in
theorem mwR_208 : mwR mr_208 := ⟨mb_7 (List.mem_of_getElem? (i := 32) rfl) rfl, mb_1 (List.mem_of_getElem? (i := 13) rfl) rfl, mb_7 (List.mem_of_getElem? (i := 30) rfl) rfl, fun _ => mb_7 (List.mem_of_getElem? (i := 31) rfl) rfl⟩
set_option maxRecDepth 100000 in
theorem mwR_209 : mwR mr_209 := ⟨mb_7 (List.mem_of_getElem? (i := 37) rfl) rfl, mb_1 (List.mem_of_getElem? (i := 13) rfl) rfl, mb_7 (List.mem_of_getElem? (i := 35) rfl) rfl, fun _ => mb_7 (List.mem_of_getElem? (i := 36) rfl) rfl⟩
set_option maxRecDepth 100000 in
theorem mwR_210 : mwR mr_210 := ⟨mb_7 (List.mem_of_getElem? (i := 76) rfl) rfl, mb_1 (List.mem_of_getElem? (i := 13) rfl) rfl, mb_7 (List.mem_of_getElem? (i := 75) rfl) rfl, fun _ => mb_0 (List.mem_of_getElem? (i := 76) rfl) rfl⟩
set_option maxRecDepth 100000 in
theorem mwR_211 : mwR mr_211 := ⟨mb_7 (List.mem_of_getElem? (i := 72) rfl) rfl, mb_1 (List.mem_of_getElem? (i := 13) rfl) rfl, mb_7 (List.mem_of_getElem? (i := 71) rfl) rfl, fun _ => mb_0 (List.mem_of_getElem? (i := 75) rfl) rfl⟩
set_option maxRecDepth 100000 in
theorem mwR_212 : mwR mr_212 := ⟨mb_7 (List.mem_of_getElem? (i := 53) rfl) rfl, mb_1 (List.mem_of_getElem? (i := 13) rfl) rfl, mb_7 (List.mem_of_getElem? (i := 52) rfl) rfl, fun _ => mb_0 (List.mem_of_getElem? (i := 72) rfl) rfl⟩
set_option maxRecDepth 100000 in
theorem mwR_213 : mwR mr_213 := ⟨mb_7 (List.mem_of_getElem? (i := 61) rfl) rfl, mb_1 (List.mem_of_getElem? (i := 13) rfl) rfl, mb_7 (List.mem_of_getElem? (i := 60) rfl) rfl, fun _ => mb_0 (List.mem_of_getElem? (i := 74) rfl) rfl⟩
set_option maxRecDepth 100000 in
theorem mwR_214 : mwR mr_214 := ⟨mb_7 (List.mem_of_getElem? (i := 57) rfl) rfl, mb_1 (List.mem_of_getElem? (i := 13) rfl) rfl, mb_7 (List.mem_of_getElem? (i := 56) rfl) rfl, fun _ => mb_0 (List.mem_of_getElem? (i := 73) rfl) rfl⟩
set_option maxRecDepth 100000 in
theorem mwR_215 : mwR mr_215 := ⟨mb_7 (List.mem_of_getElem? (i := 49) rfl) rfl, mb_1 (List.mem_of_getElem? (i := 13) rfl) rfl, mb_7 (List.mem_of_getElem? (i := 48) rfl) rfl, fun _ => mb_0 (List.mem_of_getElem? (i := 71) rfl) rfl⟩
set_option maxRecDepth 100000 in
theorem mwR_216 : mwR mr_216 := ⟨mb_7 (List.mem_of_getElem? (i := 45) rfl) rfl, mb_1 (List.mem_of_getElem? (i := 13) rfl) rfl, mb_7 (List.mem_of_getElem? (i := 44) rfl) rfl, fun _ => mb_0 (List.mem_of_getElem? (i := 70) rfl) rfl⟩
set_option maxRecDepth 100000 in
theorem mwR_217 : mwR mr_217 := ⟨mb_7 (List.mem_of_getElem? (i := 104) rfl) rfl, mb_1 (List.mem_of_getElem? (i := 13) rfl) rfl, mb_7 (List.mem_of_getElem? (i := 103) rfl) rfl, fun _ => mb_0 (List.mem_of_getElem? (i := 82) rfl) rfl⟩
set_option maxRecDepth 100000 in
theorem mwR_218 : mwR mr_218 := ⟨mb_7 (List.mem_of_getElem? (i := 108) rfl) rfl, mb_1 (List.mem_of_getElem? (i := 13) rfl) rfl, mb_7 (List.mem_of_getElem? (i := 107) rfl) rfl, fun _ => mb_0 (List.mem_of_getElem? (i := 83) rfl) rfl⟩
set_option maxRecDepth 100000 in
theorem mwR_219 : mwR mr_219 := ⟨mb_7 (List.mem_of_getElem? (i := 100) rfl) rfl, mb_1 (List.mem_of_getElem? (i := 13) rfl) rfl, mb_7 (List.mem_of_getElem? (i := 99) rfl) rfl, fun _ => mb_0 (List.mem_of_getElem? (i := 81) rfl) rfl⟩
set_option maxRecDepth 100000 in
theorem mwR_220 : mwR mr_220 := ⟨mb_7 (List.mem_of_getElem? (i := 96) rfl) rfl, mb_1 (List.mem_of_getElem? (i := 13) rfl) rfl, mb_7 (List.mem_of_getElem? (i := 95) rfl) rfl, fun _ => mb_0 (List.mem_of_getElem? (i := 80) rfl) rfl⟩
set_option maxRecDepth 100000 in
theorem mwR_221 : mwR mr_221 := ⟨mb_7 (List.mem_of_getElem? (i := 116) rfl) rfl, mb_1 (List.mem_of_getElem? (i := 13) rfl) rfl, mb_7 (List.mem_of_getElem? (i := 115) rfl) rfl, fun _ => mb_0 (List.mem_of_getElem? (i := 85) rfl) rfl⟩
set_option maxRecDepth 100000 in
theorem mwR_222 : mwR mr_222 := ⟨mb_7 (List.mem_of_getElem? (i := 92) rfl) rfl, mb_1 (List.mem_of_getElem? (i := 13) rfl) rfl, mb_7 (List.mem_of_getElem? (i := 91) rfl) rfl, fun _ => mb_0 (List.mem_of_getElem? (i := 79) rfl) rfl⟩
set_option maxRecDepth 100000 in
theorem mwR_223 : mwR mr_223 := ⟨mb_7 (List.mem_of_getElem? (i := 112) rfl) rfl, mb_1 (List.mem_of_getElem? (i := 13) rfl) rfl, mb_7 (List.mem_of_getElem? (i := 111) rfl) rfl, fun _ => mb_0 (List.mem_of_getElem? (i := 84) rfl) rfl⟩
set_option maxRecDepth 100000 in
theorem mwR_224 : mwR mr_224 := ⟨mb_7 (List.mem_of_getElem? (i := 120) rfl) rfl, mb_1 (List.mem_of_getElem? (i := 13) rfl) rfl, mb_7 (List.mem_of_getElem? (i := 119) rfl) rfl, fun _ => mb_0 (List.mem_of_getElem? (i := 86) rfl) rfl⟩
set_option maxRecDepth 100000 in
theorem mwR_225 : mwR mr_225 := ⟨mb_7 (List.mem_of_getElem? (i := 124) rfl) rfl, mb_1 (List.mem_of_getElem? (i := 13) rfl) rfl, mb_7 (List.mem_of_getElem? (i := 123) rfl) rfl, fun _ => mb_0 (List.mem_of_getElem? (i := 87) rfl) rfl⟩
set_option maxRecDepth 100000 in
theorem mwR_226 : mwR mr_226 := ⟨mb_7 (List.mem_of_getElem? (i := 129) rfl) rfl, mb_1 (List.mem_of_getElem? (i := 13) rfl) rfl, mb_7 (List.mem_of_getElem? (i := 128) rfl) rfl, fun _ => mb_0 (List.mem_of_getElem? (i := 88) rfl) rfl⟩
set_option maxRecDepth 100000 in
theorem mwR_227 : mwR mr_227 := ⟨mb_7 (List.mem_of_getElem? (i := 88) rfl) rfl, mb_1 (List.mem_of_getElem? (i := 13) rfl) rfl, mb_7 (List.mem_of_getElem? (i := 87) rfl) rfl, fun _ => mb_0 (List.mem_of_getElem? (i := 78) rfl) rfl⟩
set_option maxRecDepth 100000 in
theorem mwR_228 : mwR mr_228 := ⟨mb_7 (List.mem_of_getElem? (i := 80) rfl) rfl, mb_1 (List.mem_of_getElem? (i := 13) rfl) rfl, mb_7 (List.mem_of_getElem? (i := 79) rfl) rfl, fun _ => mb_0 (List.mem_of_getElem? (i := 77) rfl) rfl⟩
set_option maxRecDepth 100000 in
theorem mwR_229 : mwR mr_229 := ⟨mb_7 (List.mem_of_getElem? (i := 41) rfl) rfl, mb_1 (List.mem_of_getElem? (i := 13) rfl) rfl, mb_7 (List.mem_of_getElem? (i := 39) rfl) rfl, fun _ => mb_7 (List.mem_of_getElem? (i := 40) rfl) rfl⟩
set_option maxRecDepth 100000 in
theorem mwR_230 : mwR mr_230 := ⟨mb_7 (List.mem_of_getElem? (i := 84) rfl) rfl, mb_1 (List.mem_of_getElem? (i := 13) rfl) rfl, mb_7 (List.mem_of_getElem? (i := 82) rfl) rfl, fun _ => mb_7 (List.mem_of_getElem? (i := 83) rfl) rfl⟩
set_option maxRecDepth 100000 in
theorem mwR_231 : mwR mr_231 := ⟨mb_7 (List.mem_of_getElem? (i := 133) rfl) rfl, mb_1 (List.mem_of_getElem? (i := 13) rfl) rfl, mb_7 (List.mem_of_getElem? (i := 131) rfl) rfl, fun _ => mb_7 (List.mem_of_getElem? (i := 132) rfl) rfl⟩
set_option maxRecDepth 100000 in
theorem mwR_232 : mwR mr_232 := ⟨mb_7 (List.mem_of_getElem? (i := 137) rfl) rfl, mb_1 (List.mem_of_getElem? (i := 13) rfl) rfl, mb_7 (List.mem_of_getElem? (i := 135) rfl) rfl, fun _ => mb_7 (List.mem_of_getElem? (i := 136) rfl) rfl⟩
set_option maxRecDepth 100000 in
theorem mwR_233 : mwR mr_233 := ⟨mb_7 (List.mem_of_getElem? (i := 141) rfl) rfl, mb_1 (List.mem_of_getElem? (i := 13) rfl) rfl, mb_7 (List.mem_of_getElem? (i := 139) rfl) rfl, fun _ => mb_7 (List.mem_of_getElem? (i := 140) rfl) rfl⟩
set_option maxRecDepth 100000 in
theorem mwR_234 : mwR mr_234 := ⟨mb_7 (List.mem_of_getElem? (i := 149) rfl) rfl, mb_1 (List.mem_of_getElem? (i := 13) rfl) rfl, mb_7 (List.mem_of_getElem? (i := 148) rfl) rfl, fun _ => mb_0 (List.mem_of_getElem? (i := 89) rfl) rfl⟩
set_option maxRecDepth 100000 in
theorem mwR_235 : mwR mr_235 := ⟨mb_7 (List.mem_of_getElem? (i := 153) rfl) rfl, mb_1 (List.mem_of_getElem? (i := 13) rfl) rfl, mb_7 (List.mem_of_getElem? (i := 152) rfl) rfl, fun _ => mb_0 (List.mem_of_getElem? (i := 90) rfl) rfl⟩
set_option maxRecDepth 100000 in
theorem mwR_236 : mwR mr_236 := ⟨mb_7 (List.mem_of_getElem? (i := 145) rfl) rfl, mb_1 (List.mem_of_getElem? (i := 13) rfl) rfl, mb_7 (List.mem_of_getElem? (i := 143) rfl) rfl, fun _ => mb_7 (List.mem_of_getElem? (i := 144) rfl) rfl⟩
set_option maxRecDepth 100000 in
theorem mwR_237 : mwR mr_237 := ⟨mb_7 (List.mem_of_getElem? (i := 157) rfl) rfl, mb_1 (List.mem_of_getElem? (i := 13) rfl) rfl, mb_7 (List.mem_of_getElem? (i := 155) rfl) rfl, fun _ => mb_7 (List.mem_of_getElem? (i := 156) rfl) rfl⟩
set_option maxRecDepth 100000 in
theorem mwR_238 : mwR mr_238 := ⟨mb_7 (List.mem_of_getElem? (i := 170) rfl) rfl, mb_1 (List.mem_of_getElem? (i := 13) rfl) rfl, mb_7 (List.mem_of_getElem? (i := 169) rfl) rfl, fun _ => mb_0 (List.mem_of_getElem? (i := 92) rfl) rfl⟩
set_option maxRecDepth 100000 in
theorem mwR_239 : mwR mr_239 := ⟨mb_7 (List.mem_of_getElem? (i := 174) rfl) rfl, mb_1 (List.mem_of_getElem? (i := 13) rfl) rfl, mb_7 (List.mem_of_getElem? (i := 173) rfl) rfl, fun _ => mb_0 (List.mem_of_getElem? (i := 93) rfl) rfl⟩
set_option maxRecDepth 100000 in
theorem mwR_240 : mwR mr_240 := ⟨mb_7 (List.mem_of_getElem? (i := 178) rfl) rfl, mb_1 (List.mem_of_getElem? (i := 13) rfl) rfl, mb_7 (List.mem_of_getElem? (i := 177) rfl) rfl, fun _ => mb_0 (List.mem_of_getElem? (i := 94) rfl) rfl⟩
set_option maxRecDepth 100000 in
theorem mwR_241 : mwR mr_241 := ⟨mb_7 (List.mem_of_getElem? (i := 166) rfl) rfl, mb_1 (List.mem_of_getElem? (i := 13) rfl) rfl, mb_7 (List.mem_of_getElem? (i := 165) rfl) rfl, fun _ => mb_0 (List.mem_of_getElem? (i := 91) rfl) rfl⟩
set_option maxRecDepth 100000 in
theorem mwR_242 : mwR mr_242 := ⟨mb_7 (List.mem_of_getElem? (i := 161) rfl) rfl, mb_1 (List.mem_of_getElem? (i := 13) rfl) rfl, mb_7 (List.mem_of_getElem? (i := 159) rfl) rfl, fun _ => mb_7 (List.mem_of_getElem? (i := 160) rfl) rfl⟩
set_option maxRecDepth 100000 in
theorem mwR_243 : mwR mr_243 := ⟨mb_7 (List.mem_of_getElem? (i := 182) rfl) rfl, mb_1 (List.mem_of_getElem? (i := 13) rfl) rfl, mb_7 (List.mem_of_getElem? (i := 180) rfl) rfl, fun _ => mb_7 (List.mem_of_getElem? (i := 181) rfl) rfl⟩
set_option maxRecDepth 100000 in
theorem mwR_244 : mwR mr_244 := ⟨mb_7 (List.mem_of_getElem? (i := 186) rfl) rfl, mb_1 (List.mem_of_getElem? (i := 13) rfl) rfl, mb_7 (List.mem_of_getElem? (i := 184) rfl) rfl, fun _ => mb_7 (List.mem_of_getElem? (i := 185) rfl) rfl⟩
set_option maxRecDepth 100000 in
theorem mwR_245 : mwR mr_245 := ⟨mb_7 (List.mem_of_getElem? (i := 190) rfl) rfl, mb_1 (List.mem_of_getElem? (i := 13) rfl) rfl, mb_7 (List.mem_of_getElem? (i := 188) rfl) rfl, fun _ => mb_7 (List.mem_of_getElem? (i := 189) rfl) rfl⟩
set_option maxRecDepth 100000 in
theorem mwR_246 : mwR mr_246 := ⟨mb_7 (List.mem_of_getElem? (i := 194) rfl) rfl, mb_1 (List.mem_of_getElem? (i := 13) rfl) rfl, mb_7 (List.mem_of_getElem? (i := 192) rfl) rfl, fun _ => mb_7 (List.mem_of_getElem? (i := 193) rfl) rfl⟩
set_option maxRecDepth 100000 in
theorem mwR_247 : mwR mr_247 := ⟨mb_7 (List.mem_of_getElem? (i := 202) rfl) rfl, mb_1 (List.mem_of_getElem? (i := 13) rfl) rfl, mb_7 (List.mem_of_getElem? (i := 201) rfl) rfl, fun _ => mb_0 (List.mem_of_getElem? (i := 95) rfl) rfl⟩
set_option maxRecDepth 100000 in
theorem mwR_248 : mwR mr_248 := ⟨mb_7 (List.mem_of_getElem? (i := 198) rfl) rfl, mb_1 (List.mem_of_getElem? (i := 13) rfl) rfl, mb_7 (List.mem_of_getElem? (i := 196) rfl) rfl, fun _ => mb_7 (List.mem_of_getElem? (i := 197) rfl) rfl⟩
set_option maxRecDepth 100000 in
theorem mwR_249 : mwR mr_249 := ⟨mb_7 (List.mem_of_getElem? (i := 206) rfl) rfl, mb_1 (List.mem_of_getElem? (i := 13) rfl) rfl, mb_7 (List.mem_of_getElem? (i := 204) rfl) rfl, fun _ => mb_7 (List.mem_of_getElem? (i := 205) rfl) rfl⟩
set_option maxRecDepth 100000 in
theorem mwR_250 : mwR mr_250 := ⟨mb_7 (List.mem_of_getElem? (i := 210) rfl) rfl, mb_1 (List.mem_of_getElem? (i := 13) rfl) rfl, mb_7 (List.mem_of_getElem? (i := 208) rfl) rfl, fun _ => mb_7 (List.mem_of_getElem? (i := 209) rfl) rfl⟩
set_option maxRecDepth 100000 in
theorem mwR_251 : mwR mr_251 := ⟨mb_7 (List.mem_of_getElem? (i := 214) rfl) rfl, mb_1 (List.mem_of_getElem? (i := 13) rfl) rfl, mb_7 (List.mem_of_getElem? (i := 212) rfl) rfl, fun _ => mb_7 (List.mem_of_getElem? (i := 213) rfl) rfl⟩
set_option maxRecDepth 100000 in
theorem mwR_252 : mwR mr_252 := ⟨mb_7 (List.mem_of_getElem? (i := 218) rfl) rfl, mb_1 (List.mem_of_getElem? (i := 13) rfl) rfl, mb_7 (List.mem_of_getElem? (i := 216) rfl) rfl, fun _ => mb_7 (List.mem_of_getElem? (i := 217) rfl) rfl⟩
set_option maxRecDepth 100000 in
theorem mwR_253 : mwR mr_253 := ⟨mb_7 (List.mem_of_getElem? (i := 227) rfl) rfl, mb_1 (List.mem_of_getElem? (i := 13) rfl) rfl, mb_7 (List.mem_of_getElem? (i := 226) rfl) rfl, fun _ => mb_0 (List.mem_of_getElem? (i := 96) rfl) rfl⟩
set_option maxRecDepth 100000 in
theorem mwR_254 : mwR mr_254 := ⟨mb_7 (List.mem_of_getElem? (i := 223) rfl) rfl, mb_1 (List.mem_of_getElem? (i := 13) rfl) rfl, mb_7 (List.mem_of_getElem? (i := 221) rfl) rfl, fun _ => mb_7 (List.mem_of_getElem? (i := 222) rfl) rfl⟩
set_option maxRecDepth 100000 in
theorem mwR_255 : mwR mr_255 := ⟨mb_8 (List.mem_of_getElem? (i := 0) rfl) rfl, mb_1 (List.mem_of_getElem? (i := 13) rfl) rfl, mb_7 (List.mem_of_getElem? (i := 239) rfl) rfl, fun _ => mb_0 (List.mem_of_getElem? (i := 98) rfl) rfl⟩
set_option maxRecDepth 100000 in
theorem mwR_256 : mwR mr_256 := ⟨mb_7 (List.mem_of_getElem? (i := 236) rfl) rfl, mb_1 (List.mem_of_getElem? (i := 13) rfl) rfl, mb_7 (List.mem_of_getElem? (i := 235) rfl) rfl, fun _ => mb_0 (List.mem_of_getElem? (i := 97) rfl) rfl⟩
set_option maxRecDepth 100000 in
theorem mwR_257 : mwR mr_257 := ⟨mb_8 (List.mem_of_getElem? (i := 4) rfl) rfl, mb_1 (List.mem_of_getElem? (i := 13) rfl) rfl, mb_8 (List.mem_of_getElem? (i := 3) rfl) rfl, fun _ => mb_0 (List.mem_of_getElem? (i := 99) rfl) rfl⟩
set_option maxRecDepth 100000 in
theorem mwR_258 : mwR mr_258 := ⟨mb_8 (List.mem_of_getElem? (i := 8) rfl) rfl, mb_1 (List.mem_of_getElem? (i := 13) rfl) rfl, mb_8 (List.mem_of_getElem? (i := 7) rfl) rfl, fun _ => mb_0 (List.mem_of_getElem? (i := 100) rfl) rfl⟩
set_option maxRecDepth 100000 in
theorem mwR_259 : mwR mr_259 := ⟨mb_7 (List.mem_of_getElem? (i := 232) rfl) rfl, mb_1 (List.mem_of_getElem? (i := 13) rfl) rfl, mb_7 (List.mem_of_getElem? (i := 230) rfl) rfl, fun _ => mb_7 (List.mem_of_getElem? (i := 231) rfl) rfl⟩
set_option maxRecDepth 100000 in
theorem mwR_260 : mwR mr_260 := ⟨mb_8 (List.mem_of_getElem? (i := 12) rfl) rfl, mb_1 (List.mem_of_getElem? (i := 13) rfl) rfl, mb_8 (List.mem_of_getElem? (i := 10) rfl) rfl, fun _ => mb_8 (List.mem_of_getElem? (i := 11) rfl) rfl⟩
set_option maxRecDepth 100000 in
theorem mwR_261 : mwR mr_261 := ⟨mb_3 (List.mem_of_getElem? (i := 112) rfl) rfl, mb_1 (List.mem_of_getElem? (i := 14) rfl) rfl, mb_3 (List.mem_of_getElem? (i := 111) rfl) rfl, fun h => absurd h (by decide)⟩
